/**
 * The ending of incidents: units are released and come back by cleaning, refilling and checks;
 * incidents close by themselves; calls wait for the next ready unit.
 */
public final class ReleaseRows {
    private static final int NONE = -1;

    private static final int MOST_UNITS = 24;
    private static final int MOST_INCIDENTS = 20;
    private static final int MOST_WAITING = 30;
    private static final int GOODS = 6;

    private static final int LAST_SECOND = 999_999;
    private static final int LONGEST_TICK = 5_000;
    private static final int LONGEST_SPAN = 100_000;
    private static final int FIRST_SPAN = 600;
    private static final int FARTHEST_HOME = 99_999;
    private static final int LONGEST_WORK = 10_000;
    private static final int ALL_CHECKS = 255;
    private static final int LAST_PLACE = 99;
    private static final int LAST_REPORT_ROW = 7;
    private static final int MOST_INSIDE = 1_000;
    private static final int MOST_USED_AT_ONCE = 1_000;
    private static final int MOST_USED = 100_000;
    private static final int MOST_DELIVERED = 100_000;
    private static final int MOST_STOCK = 10_000_000;

    private static final int READY = 0;
    private static final int AT_INCIDENT = 1;
    private static final int RETURNING = 2;
    private static final int CLEANING = 3;
    private static final int REFILLING = 4;
    private static final int CHECKED = 5;

    /** The report rows 0, 1 and 2, without which no incident closes. */
    private static final int ROWS_TO_CLOSE = 7;

    private static final int FIRST_STOCK_COUNT = 10;

    private final UnitRows units;
    private final IncidentRows incidents;
    private final WaitingRow waiting;
    private final int[] stocks;
    private int second;
    private int reopenSpan;

    public ReleaseRows() {
        units = new UnitRows();
        incidents = new IncidentRows();
        waiting = new WaitingRow();
        stocks = new int[GOODS];
        second = 0;
        reopenSpan = FIRST_SPAN;
    }

    public int unit(int home, int cleaning, int refilling, int checks)
            throws IndexOutOfBoundsException, UnsupportedOperationException {
        needRange(home, 0, FARTHEST_HOME);
        needRange(cleaning, 0, LONGEST_WORK);
        needRange(refilling, 0, LONGEST_WORK);
        needRange(checks, 0, ALL_CHECKS);
        needRoom(units.size < MOST_UNITS);
        int unit = units.addUnit(home, second);
        units.setWork(unit, cleaning, refilling, checks);
        settle();
        return unit;
    }

    public void home(int unit, int distance) throws IllegalArgumentException, IndexOutOfBoundsException {
        needKnown(units.has(unit));
        needRange(distance, 0, FARTHEST_HOME);
        units.home[unit] = distance;
    }

    public void span(int seconds) throws IndexOutOfBoundsException {
        needRange(seconds, 0, LONGEST_SPAN);
        reopenSpan = seconds;
    }

    public int call(int place, boolean waits) throws IndexOutOfBoundsException, UnsupportedOperationException {
        needRange(place, 0, LAST_PLACE);
        needRoom(!waits || waiting.size < MOST_WAITING);
        int incident = incidents.latestOf(place);
        if (incident == NONE || isPast(incident)) {
            needRoom(incidents.size < MOST_INCIDENTS);
            incident = incidents.addIncident(place);
        }
        if (!incidents.isOpen[incident]) {
            incidents.open(incident);
        }
        if (waits) {
            waiting.addLast(incident);
        }
        settle();
        return incident;
    }

    public void send(int unit, int incident) throws IllegalArgumentException, IllegalStateException {
        needKnown(units.has(unit) && incidents.has(incident));
        needState(units.is[unit] == READY && incidents.isOpen[incident]);
        bring(unit, incident);
        settle();
    }

    public int release(int incident, int n)
            throws IllegalArgumentException, IndexOutOfBoundsException, IllegalStateException {
        needKnown(incidents.has(incident));
        needRange(n, 1, MOST_UNITS);
        needState(incidents.isOpen[incident]);
        int released = 0;
        for (int i = 0; i < n; i++) {
            int unit = units.farthestAt(incident);
            if (unit == NONE) {
                break;
            }
            units.become(unit, RETURNING, second);
            released++;
        }
        settle();
        return released;
    }

    public void back(int unit) throws IllegalArgumentException, IllegalStateException {
        needKnown(units.has(unit));
        needState(units.is[unit] == RETURNING);
        units.become(unit, CLEANING, second);
        settle();
    }

    public int use(int unit, int good, int n) throws IllegalArgumentException, IndexOutOfBoundsException,
            IllegalStateException, UnsupportedOperationException {
        needKnown(units.has(unit) && isGood(good));
        needRange(n, 1, MOST_USED_AT_ONCE);
        needState(units.is[unit] == AT_INCIDENT || units.is[unit] == RETURNING);
        int used = units.used[unit * GOODS + good] + n;
        needRoom(used <= MOST_USED);
        units.used[unit * GOODS + good] = used;
        return used;
    }

    public int deliver(int good, int n)
            throws IllegalArgumentException, IndexOutOfBoundsException, UnsupportedOperationException {
        needKnown(isGood(good));
        needRange(n, 0, MOST_DELIVERED);
        int stock = stocks[good] + n;
        needRoom(stock <= MOST_STOCK);
        stocks[good] = stock;
        settle();
        return stock;
    }

    public void check(int unit, int bits)
            throws IllegalArgumentException, IndexOutOfBoundsException, IllegalStateException {
        needKnown(units.has(unit));
        needRange(bits, 0, ALL_CHECKS);
        needState(units.is[unit] == CHECKED);
        units.checksDone[unit] |= bits;
        settle();
    }

    public void inside(int incident, int n)
            throws IllegalArgumentException, IndexOutOfBoundsException, IllegalStateException {
        needKnown(incidents.has(incident));
        needRange(n, 0, MOST_INSIDE);
        needState(incidents.isOpen[incident]);
        incidents.persons[incident] = n;
        settle();
    }

    public void report(int incident, int row) throws IllegalArgumentException, IllegalStateException {
        needKnown(incidents.has(incident) && row >= 0 && row <= LAST_REPORT_ROW);
        needState(incidents.isOpen[incident]);
        incidents.reportRows[incident] |= 1 << row;
        settle();
    }

    public void watch(int incident, int until)
            throws IllegalArgumentException, IndexOutOfBoundsException, IllegalStateException {
        needKnown(incidents.has(incident));
        needRange(until, NONE, LAST_SECOND);
        needState(incidents.isOpen[incident]);
        incidents.watchEnd[incident] = until;
        settle();
    }

    public int tick(int seconds) throws IndexOutOfBoundsException {
        needRange(seconds, 1, LONGEST_TICK);
        needRange(seconds, 1, LAST_SECOND - second);
        int end = second + seconds;
        int closed = 0;
        for (int i = 0; i < seconds && second < end; i++) {
            second = nextChange(end);
            closed += settle();
        }
        return closed;
    }

    public int unitAt(int unit, int what) throws IllegalArgumentException {
        needKnown(units.has(unit));
        switch (what) {
            case 0:
                return units.is[unit];
            case 1:
                return units.incident[unit];
            case 2:
                return units.since[unit];
            case 3:
                return units.is[unit] == CHECKED ? units.checksToDo(unit) : 0;
            case 4:
                return units.timesSent[unit];
            default:
                throw new IllegalArgumentException("no such what");
        }
    }

    public int incidentAt(int incident, int what) throws IllegalArgumentException {
        needKnown(incidents.has(incident));
        switch (what) {
            case 0:
                return incidents.isOpen[incident] ? 1 : 0;
            case 1:
                return units.countAt(incident);
            case 2:
                return waiting.countFor(incident);
            case 3:
                return incidents.timesOpened[incident];
            case 4:
                return incidents.timesClosed[incident];
            case 5:
                return incidents.closedAt[incident];
            case 6:
                return incidents.reportRows[incident];
            case 7:
                return incidents.isOpenPastWatch(incident, second) ? 1 : 0;
            default:
                throw new IllegalArgumentException("no such what");
        }
    }

    public int count(int what) throws IllegalArgumentException {
        switch (what) {
            case 0:
                return second;
            case 1:
                return units.countReady();
            case 2:
                return waiting.size;
            case 3:
                return incidents.countOpen();
            default:
                needKnown(what >= FIRST_STOCK_COUNT && isGood(what - FIRST_STOCK_COUNT));
                return stocks[what - FIRST_STOCK_COUNT];
        }
    }

    private static void needKnown(boolean known) {
        if (!known) {
            throw new IllegalArgumentException("no such number");
        }
    }

    private static void needRange(int number, int least, int most) {
        if (number < least || number > most) {
            throw new IndexOutOfBoundsException("a number outside its range");
        }
    }

    private static void needState(boolean inState) {
        if (!inState) {
            throw new IllegalStateException("not in this state");
        }
    }

    private static void needRoom(boolean room) {
        if (!room) {
            throw new UnsupportedOperationException("no room");
        }
    }

    private static boolean isGood(int good) {
        return good >= 0 && good < GOODS;
    }

    /** Whether an incident closed too long ago to be opened again. */
    private boolean isPast(int incident) {
        return !incidents.isOpen[incident] && second - incidents.closedAt[incident] > reopenSpan;
    }

    private void bring(int unit, int incident) {
        units.goTo(unit, incident, second);
        incidents.unitWasThere[incident] = true;
    }

    /**
     * Lets all be so that can be so in this second, and answers how many incidents closed.
     * One pass is enough: stocks only shrink in it, a unit that a call got goes on no further,
     * and a closed incident frees neither a unit nor a call.
     */
    private int settle() {
        for (int unit = 0; unit < units.size; unit++) {
            units.goOn(unit, stocks, second);
        }
        giveUnitsToCalls();
        return closeIncidents();
    }

    private void giveUnitsToCalls() {
        for (int i = 0; i < MOST_WAITING && waiting.size > 0; i++) {
            int unit = units.nearestReady();
            if (unit == NONE) {
                return;
            }
            bring(unit, waiting.takeFirst());
        }
    }

    private int closeIncidents() {
        int closed = 0;
        for (int incident = 0; incident < incidents.size; incident++) {
            if (incidents.mayClose(incident, second)
                    && units.countAt(incident) == 0 && waiting.countFor(incident) == 0) {
                incidents.close(incident, second);
                closed++;
            }
        }
        return closed;
    }

    /** The next second, up to an end, in which a time runs out: before it nothing can change by itself. */
    private int nextChange(int end) {
        int change = end;
        for (int unit = 0; unit < units.size; unit++) {
            change = earlierAhead(units.workEnd(unit), change);
        }
        for (int incident = 0; incident < incidents.size; incident++) {
            if (incidents.isOpen[incident]) {
                change = earlierAhead(incidents.watchEnd[incident], change);
            }
        }
        return change;
    }

    private int earlierAhead(int candidate, int change) {
        return candidate > second && candidate < change ? candidate : change;
    }

    /** What is known of each unit, in rows by the unit's number. */
    private static final class UnitRows {
        final int[] home = new int[MOST_UNITS];
        final int[] cleaning = new int[MOST_UNITS];
        final int[] refilling = new int[MOST_UNITS];
        final int[] checks = new int[MOST_UNITS];
        final int[] checksDone = new int[MOST_UNITS];
        final int[] is = new int[MOST_UNITS];
        final int[] incident = new int[MOST_UNITS];
        final int[] since = new int[MOST_UNITS];
        final int[] timesSent = new int[MOST_UNITS];
        /** Of unit u and good g at u * GOODS + g. */
        final int[] used = new int[MOST_UNITS * GOODS];
        int size = 0;

        boolean has(int unit) {
            return unit >= 0 && unit < size;
        }

        int addUnit(int distance, int second) {
            int unit = size;
            size++;
            home[unit] = distance;
            become(unit, READY, second);
            return unit;
        }

        void setWork(int unit, int cleaningSeconds, int refillingSeconds, int checkBits) {
            cleaning[unit] = cleaningSeconds;
            refilling[unit] = refillingSeconds;
            checks[unit] = checkBits;
        }

        void become(int unit, int state, int second) {
            is[unit] = state;
            incident[unit] = NONE;
            since[unit] = second;
        }

        void goTo(int unit, int where, int second) {
            become(unit, AT_INCIDENT, second);
            incident[unit] = where;
            timesSent[unit]++;
        }

        /** One after the other, so that a unit goes through all that it can in one second. */
        void goOn(int unit, int[] stocks, int second) {
            if (is[unit] == CLEANING && second >= workEnd(unit)) {
                become(unit, REFILLING, second);
            }
            if (is[unit] == REFILLING && second >= workEnd(unit) && canRefill(unit, stocks)) {
                refill(unit, stocks);
                checksDone[unit] = 0;
                become(unit, CHECKED, second);
            }
            if (is[unit] == CHECKED && checksToDo(unit) == 0) {
                become(unit, READY, second);
            }
        }

        /** The second at which its cleaning or refilling time is over, or none. */
        int workEnd(int unit) {
            if (is[unit] == CLEANING) {
                return since[unit] + cleaning[unit];
            }
            return is[unit] == REFILLING ? since[unit] + refilling[unit] : NONE;
        }

        int checksToDo(int unit) {
            return checks[unit] & ~checksDone[unit];
        }

        int nearestReady() {
            int nearest = NONE;
            for (int unit = 0; unit < size; unit++) {
                if (is[unit] == READY && (nearest == NONE || home[unit] < home[nearest])) {
                    nearest = unit;
                }
            }
            return nearest;
        }

        int farthestAt(int where) {
            int farthest = NONE;
            for (int unit = 0; unit < size; unit++) {
                if (incident[unit] == where && (farthest == NONE || home[unit] > home[farthest])) {
                    farthest = unit;
                }
            }
            return farthest;
        }

        int countAt(int where) {
            int there = 0;
            for (int unit = 0; unit < size; unit++) {
                if (incident[unit] == where) {
                    there++;
                }
            }
            return there;
        }

        int countReady() {
            int ready = 0;
            for (int unit = 0; unit < size; unit++) {
                if (is[unit] == READY) {
                    ready++;
                }
            }
            return ready;
        }

        private boolean canRefill(int unit, int[] stocks) {
            for (int good = 0; good < GOODS; good++) {
                if (used[unit * GOODS + good] > stocks[good]) {
                    return false;
                }
            }
            return true;
        }

        private void refill(int unit, int[] stocks) {
            for (int good = 0; good < GOODS; good++) {
                stocks[good] -= used[unit * GOODS + good];
                used[unit * GOODS + good] = 0;
            }
        }
    }

    /** What is known of each incident, in rows by the incident's number. */
    private static final class IncidentRows {
        final int[] place = new int[MOST_INCIDENTS];
        final boolean[] isOpen = new boolean[MOST_INCIDENTS];
        final boolean[] unitWasThere = new boolean[MOST_INCIDENTS];
        final int[] reportRows = new int[MOST_INCIDENTS];
        final int[] persons = new int[MOST_INCIDENTS];
        final int[] watchEnd = new int[MOST_INCIDENTS];
        final int[] timesOpened = new int[MOST_INCIDENTS];
        final int[] timesClosed = new int[MOST_INCIDENTS];
        final int[] closedAt = new int[MOST_INCIDENTS];
        int size = 0;

        boolean has(int incident) {
            return incident >= 0 && incident < size;
        }

        int addIncident(int where) {
            int incident = size;
            size++;
            place[incident] = where;
            closedAt[incident] = NONE;
            return incident;
        }

        /** The last one made is also the open or latest closed one: none is made while another can be had. */
        int latestOf(int where) {
            for (int incident = size - 1; incident >= 0; incident--) {
                if (place[incident] == where) {
                    return incident;
                }
            }
            return NONE;
        }

        void open(int incident) {
            isOpen[incident] = true;
            unitWasThere[incident] = false;
            reportRows[incident] = 0;
            persons[incident] = 0;
            watchEnd[incident] = NONE;
            timesOpened[incident]++;
        }

        void close(int incident, int second) {
            isOpen[incident] = false;
            timesClosed[incident]++;
            closedAt[incident] = second;
        }

        /**
         * Whether all but the units there and the calls that wait lets it close.
         * Without a watch its end is -1, and every second is later.
         */
        boolean mayClose(int incident, int second) {
            return isOpen[incident] && unitWasThere[incident] && persons[incident] == 0
                    && (reportRows[incident] & ROWS_TO_CLOSE) == ROWS_TO_CLOSE
                    && second >= watchEnd[incident];
        }

        boolean isOpenPastWatch(int incident, int second) {
            return isOpen[incident] && watchEnd[incident] != NONE && second >= watchEnd[incident];
        }

        int countOpen() {
            int open = 0;
            for (int incident = 0; incident < size; incident++) {
                if (isOpen[incident]) {
                    open++;
                }
            }
            return open;
        }
    }

    /** The incidents of the calls that wait, first come first. */
    private static final class WaitingRow {
        final int[] incident = new int[MOST_WAITING];
        int size = 0;

        void addLast(int which) {
            incident[size] = which;
            size++;
        }

        int takeFirst() {
            int first = incident[0];
            size--;
            System.arraycopy(incident, 1, incident, 0, size);
            return first;
        }

        int countFor(int which) {
            int calls = 0;
            for (int i = 0; i < size; i++) {
                if (incident[i] == which) {
                    calls++;
                }
            }
            return calls;
        }
    }
}
