import java.util.ArrayList;
import java.util.List;
import java.util.function.Consumer;
import java.util.function.Function;
import java.util.function.Supplier;

/**
 * Every refusal that a promise names, the order of two that apply at once, and that what is refused
 * changes nothing: each refused call is made on an object of its own, which must then answer all
 * that follows as a twin does that was not asked.
 */
public final class RefusalsTest extends Due {

    /** A way to make an object, and calls after it whose answers tell what it holds. */
    private static final class Scene {
        private final Supplier<ReleaseRows> made;
        private final Function<ReleaseRows, List<Object>> ending;
        private final List<Object> dueEnding;

        Scene(Supplier<ReleaseRows> made, Function<ReleaseRows, List<Object>> ending) {
            this.made = made;
            this.ending = ending;
            dueEnding = ending.apply(made.get());
        }

        void refuses(Class<? extends RuntimeException> want, String what, Consumer<ReleaseRows> call) {
            ReleaseRows x = made.get();
            refused(what, want, () -> call.accept(x));
            due(what + ": refused, then", ending.apply(x), dueEnding);
        }
    }

    // Nothing made yet

    private static List<Object> endOfNew(ReleaseRows x) {
        List<Object> all = new ArrayList<>();
        all.add(shown(x, 0, 0));
        all.add(x.unit(3, 0, 0, 0));
        all.add(x.call(4, true));
        all.add(shown(x, 1, 1));
        tellRows(x, 0);
        x.release(0, 1);
        x.tick(600);
        all.add(x.call(4, false));
        all.add(shown(x, 1, 1));
        return all;
    }

    private static void nothingIsKnownOfANewObject() {
        Scene s = new Scene(ReleaseRows::new, RefusalsTest::endOfNew);
        s.refuses(UNKNOWN, "new: home", x -> x.home(0, 0));
        s.refuses(UNKNOWN, "new: send", x -> x.send(0, 0));
        s.refuses(UNKNOWN, "new: release", x -> x.release(0, 1));
        s.refuses(UNKNOWN, "new: back", x -> x.back(0));
        s.refuses(UNKNOWN, "new: use", x -> x.use(0, 0, 1));
        s.refuses(UNKNOWN, "new: check", x -> x.check(0, 0));
        s.refuses(UNKNOWN, "new: inside", x -> x.inside(0, 0));
        s.refuses(UNKNOWN, "new: report", x -> x.report(0, 0));
        s.refuses(UNKNOWN, "new: watch", x -> x.watch(0, -1));
        s.refuses(UNKNOWN, "new: unitAt", x -> x.unitAt(0, 0));
        s.refuses(UNKNOWN, "new: incidentAt", x -> x.incidentAt(0, 0));
    }

    // Some of each

    /**
     * Second 20, span 50. Unit 0 is ready, 1 at incident 0, 2 returning, 3 cleaning, 4 refilling,
     * 5 checked. Incidents 0 and 1 are open, 2 closed at second 0. No call waits.
     */
    private static ReleaseRows someOfEach() {
        ReleaseRows x = new ReleaseRows();
        x.unit(50, 0, 0, 0);
        x.unit(60, 3, 4, 1);
        x.unit(70, 3, 4, 1);
        x.unit(80, 30, 4, 1);
        x.unit(90, 0, 40, 1);
        x.unit(95, 0, 0, 7);
        x.call(10, false);
        x.call(11, false);
        x.call(12, false);
        x.span(50);
        runToClose(x, 0, 2);
        x.back(0);
        for (int unit = 2; unit < 6; unit++) {
            x.send(unit, 1);
        }
        x.use(2, 1, 12);
        x.use(4, 2, 13);
        x.release(1, 4);
        x.back(3);
        x.back(4);
        x.back(5);
        x.check(5, 1);
        x.send(1, 0);
        x.use(1, 0, 11);
        x.report(0, 1);
        x.report(1, 5);
        x.inside(0, 3);
        x.watch(0, 45);
        x.deliver(0, 5);
        x.deliver(1, 20);
        x.tick(20);
        return x;
    }

    /** Tells what was used, the times, the watch, who is inside, the span and the home distances. */
    private static List<Object> endOfSome(ReleaseRows x) {
        List<Object> all = new ArrayList<>();
        all.add(shown(x, 6, 3));
        for (int good = 0; good < 6; good++) {
            all.add(x.use(1, good, 1));
            all.add(x.use(2, good, 1));
            all.add(x.deliver(good, 1_000));
        }
        x.send(0, 0);
        all.add(x.release(0, 1));
        all.add(shown(x, 6, 0));
        all.add(x.tick(24));
        all.add(shown(x, 6, 3));
        all.add(x.tick(1));
        tellRows(x, 0);
        all.add(x.release(0, 24));
        all.add(shown(x, 0, 3));
        x.inside(0, 0);
        tellRows(x, 1);
        all.add(shown(x, 0, 3));
        all.add(x.tick(5));
        all.add(x.call(12, false));
        all.add(x.tick(46));
        all.add(x.call(10, false));
        endOfSomeUnits(x, all);
        return all;
    }

    private static void endOfSomeUnits(ReleaseRows x, List<Object> all) {
        x.check(3, 1);
        x.check(4, 1);
        x.check(5, 6);
        x.back(0);
        x.back(1);
        x.back(2);
        x.tick(7);
        x.check(1, 1);
        x.check(2, 1);
        all.add(shown(x, 6, 0));
        for (int place = 50; place < 56; place++) {
            all.add(x.call(place, true));
        }
        all.add(shown(x, 6, 0));
    }

    private static final Scene SOME = new Scene(RefusalsTest::someOfEach, RefusalsTest::endOfSome);

    private static final int[] NO_UNITS = {-1, 6, 24, LOW, HIGH};
    private static final int[] NO_INCIDENTS = {-1, 3, 20, LOW, HIGH};
    private static final int[] NO_GOODS = {-1, 6, LOW, HIGH};
    private static final int CLOSED = 2;

    private static void theSceneIsAsToldAbove() {
        ReleaseRows x = someOfEach();
        for (int unit = 0; unit < 6; unit++) {
            due("some of each: unit " + unit, x.unitAt(unit, 0), unit);
        }
        for (int incident = 0; incident < 3; incident++) {
            due("some of each: incident " + incident, x.incidentAt(incident, 0), incident == CLOSED ? 0 : 1);
        }
        due("some of each: calls that wait", x.count(2), 0);
        ReleaseRows full = full();
        due("full: ready units", full.count(1), 0);
        due("full: calls that wait", full.count(2), 30);
        due("full: open incidents", full.count(3), 20);
    }

    private static void unit() {
        for (int bad : new int[] {-1, 100_000, LOW, HIGH}) {
            SOME.refuses(RANGE, "2: home " + bad, x -> x.unit(bad, 0, 0, 0));
        }
        for (int bad : new int[] {-1, 10_001, LOW, HIGH}) {
            SOME.refuses(RANGE, "2: cleaning " + bad, x -> x.unit(0, bad, 0, 0));
            SOME.refuses(RANGE, "2: refilling " + bad, x -> x.unit(0, 0, bad, 0));
        }
        for (int bad : new int[] {-1, 256, LOW, HIGH}) {
            SOME.refuses(RANGE, "2: checks " + bad, x -> x.unit(0, 0, 0, bad));
        }
    }

    private static void home() {
        for (int unit : NO_UNITS) {
            SOME.refuses(UNKNOWN, "3: unit " + unit, x -> x.home(unit, 0));
            SOME.refuses(UNKNOWN, "3: unknown before range, " + unit, x -> x.home(unit, -1));
            SOME.refuses(UNKNOWN, "3: unknown before range above, " + unit, x -> x.home(unit, 100_000));
        }
        for (int bad : new int[] {-1, 100_000, LOW, HIGH}) {
            SOME.refuses(RANGE, "3: the nearest, " + bad, x -> x.home(0, bad));
            SOME.refuses(RANGE, "3: the farthest, " + bad, x -> x.home(5, bad));
        }
    }

    private static void span() {
        for (int bad : new int[] {-1, 100_001, LOW, HIGH}) {
            SOME.refuses(RANGE, "4: " + bad, x -> x.span(bad));
        }
    }

    private static void call() {
        for (int bad : new int[] {-1, 100, LOW, HIGH}) {
            SOME.refuses(RANGE, "5: place " + bad, x -> x.call(bad, false));
            SOME.refuses(RANGE, "5: place " + bad + ", waits", x -> x.call(bad, true));
        }
    }

    private static void send() {
        for (int unit : NO_UNITS) {
            SOME.refuses(UNKNOWN, "6: unit " + unit, x -> x.send(unit, 0));
            SOME.refuses(UNKNOWN, "6: unknown before the incident's state, " + unit, x -> x.send(unit, CLOSED));
        }
        for (int incident : NO_INCIDENTS) {
            SOME.refuses(UNKNOWN, "6: incident " + incident, x -> x.send(0, incident));
            SOME.refuses(UNKNOWN, "6: unknown before the unit's state, " + incident, x -> x.send(1, incident));
        }
        for (int unit = 1; unit < 6; unit++) {
            int busy = unit;
            SOME.refuses(STATE, "6: is " + busy, x -> x.send(busy, 1));
            SOME.refuses(STATE, "6: is " + busy + ", closed", x -> x.send(busy, CLOSED));
        }
        SOME.refuses(STATE, "6: the same incident again", x -> x.send(1, 0));
        SOME.refuses(STATE, "6: closed", x -> x.send(0, CLOSED));
    }

    private static void release() {
        int[] badNumbers = {0, 25, -1, LOW, HIGH};
        for (int incident : NO_INCIDENTS) {
            SOME.refuses(UNKNOWN, "7: incident " + incident, x -> x.release(incident, 1));
            SOME.refuses(UNKNOWN, "7: unknown before range, " + incident, x -> x.release(incident, 0));
            SOME.refuses(UNKNOWN, "7: unknown before range above, " + incident, x -> x.release(incident, 25));
        }
        for (int bad : badNumbers) {
            SOME.refuses(RANGE, "7: n " + bad, x -> x.release(0, bad));
            SOME.refuses(RANGE, "7: range before state, " + bad, x -> x.release(CLOSED, bad));
        }
        SOME.refuses(STATE, "7: closed", x -> x.release(CLOSED, 1));
        SOME.refuses(STATE, "7: closed, 24", x -> x.release(CLOSED, 24));
    }

    private static void back() {
        for (int unit : NO_UNITS) {
            SOME.refuses(UNKNOWN, "8: unit " + unit, x -> x.back(unit));
        }
        for (int unit : new int[] {0, 1, 3, 4, 5}) {
            SOME.refuses(STATE, "8: not returning, " + unit, x -> x.back(unit));
        }
    }

    private static void use() {
        int[] badNumbers = {0, 1_001, -1, LOW, HIGH};
        for (int unit : NO_UNITS) {
            SOME.refuses(UNKNOWN, "9: unit " + unit, x -> x.use(unit, 0, 1));
            SOME.refuses(UNKNOWN, "9: unknown unit before range, " + unit, x -> x.use(unit, 0, 0));
        }
        for (int good : NO_GOODS) {
            SOME.refuses(UNKNOWN, "9: good " + good, x -> x.use(1, good, 1));
            SOME.refuses(UNKNOWN, "9: unknown good before range, " + good, x -> x.use(1, good, 1_001));
            SOME.refuses(UNKNOWN, "9: unknown good before state, " + good, x -> x.use(0, good, 1));
        }
        for (int bad : badNumbers) {
            SOME.refuses(RANGE, "9: at an incident, n " + bad, x -> x.use(1, 0, bad));
            SOME.refuses(RANGE, "9: returning, n " + bad, x -> x.use(2, 5, bad));
            SOME.refuses(RANGE, "9: range before state, " + bad, x -> x.use(0, 0, bad));
        }
        for (int unit : new int[] {0, 3, 4, 5}) {
            SOME.refuses(STATE, "9: unit " + unit + ", 1", x -> x.use(unit, 0, 1));
            SOME.refuses(STATE, "9: unit " + unit + ", 1,000", x -> x.use(unit, 5, 1_000));
        }
    }

    private static void deliver() {
        int[] badNumbers = {-1, 100_001, LOW, HIGH};
        for (int good : NO_GOODS) {
            SOME.refuses(UNKNOWN, "10: good " + good, x -> x.deliver(good, 1));
            SOME.refuses(UNKNOWN, "10: unknown before range, " + good, x -> x.deliver(good, -1));
            SOME.refuses(UNKNOWN, "10: unknown before range above, " + good, x -> x.deliver(good, 100_001));
        }
        for (int bad : badNumbers) {
            SOME.refuses(RANGE, "10: the first good, " + bad, x -> x.deliver(0, bad));
            SOME.refuses(RANGE, "10: the last good, " + bad, x -> x.deliver(5, bad));
        }
    }

    private static void check() {
        int[] badBits = {-1, 256, LOW, HIGH};
        for (int unit : NO_UNITS) {
            SOME.refuses(UNKNOWN, "11: unit " + unit, x -> x.check(unit, 1));
            SOME.refuses(UNKNOWN, "11: unknown before range, " + unit, x -> x.check(unit, 256));
        }
        for (int bad : badBits) {
            SOME.refuses(RANGE, "11: bits " + bad, x -> x.check(5, bad));
            SOME.refuses(RANGE, "11: range before state, " + bad, x -> x.check(0, bad));
        }
        for (int unit = 0; unit < 5; unit++) {
            int notChecked = unit;
            SOME.refuses(STATE, "11: none on unit " + unit, x -> x.check(notChecked, 0));
            SOME.refuses(STATE, "11: all on unit " + unit, x -> x.check(notChecked, 255));
        }
    }

    private static void inside() {
        int[] badNumbers = {-1, 1_001, LOW, HIGH};
        for (int incident : NO_INCIDENTS) {
            SOME.refuses(UNKNOWN, "12: incident " + incident, x -> x.inside(incident, 0));
            SOME.refuses(UNKNOWN, "12: unknown before range, " + incident, x -> x.inside(incident, -1));
        }
        for (int bad : badNumbers) {
            SOME.refuses(RANGE, "12: somebody is inside, n " + bad, x -> x.inside(0, bad));
            SOME.refuses(RANGE, "12: nobody is inside, n " + bad, x -> x.inside(1, bad));
            SOME.refuses(RANGE, "12: range before state, " + bad, x -> x.inside(CLOSED, bad));
        }
        SOME.refuses(STATE, "12: closed", x -> x.inside(CLOSED, 0));
        SOME.refuses(STATE, "12: closed, 1,000", x -> x.inside(CLOSED, 1_000));
    }

    private static void report() {
        for (int incident : NO_INCIDENTS) {
            SOME.refuses(UNKNOWN, "13: incident " + incident, x -> x.report(incident, 0));
            SOME.refuses(UNKNOWN, "13: incident " + incident + ", no row", x -> x.report(incident, 8));
        }
        for (int row : new int[] {-1, 8, 31, 32, LOW, HIGH}) {
            SOME.refuses(UNKNOWN, "13: row " + row, x -> x.report(0, row));
            SOME.refuses(UNKNOWN, "13: unknown before state, " + row, x -> x.report(CLOSED, row));
        }
        SOME.refuses(STATE, "13: closed", x -> x.report(CLOSED, 0));
        SOME.refuses(STATE, "13: closed, the last row", x -> x.report(CLOSED, 7));
    }

    private static void watch() {
        int[] badSeconds = {-2, 1_000_000, LOW, HIGH};
        for (int incident : NO_INCIDENTS) {
            SOME.refuses(UNKNOWN, "14: incident " + incident, x -> x.watch(incident, -1));
            SOME.refuses(UNKNOWN, "14: unknown before range, " + incident, x -> x.watch(incident, -2));
        }
        for (int bad : badSeconds) {
            SOME.refuses(RANGE, "14: a watch is set, " + bad, x -> x.watch(0, bad));
            SOME.refuses(RANGE, "14: no watch is set, " + bad, x -> x.watch(1, bad));
            SOME.refuses(RANGE, "14: range before state, " + bad, x -> x.watch(CLOSED, bad));
        }
        SOME.refuses(STATE, "14: closed, none", x -> x.watch(CLOSED, -1));
        SOME.refuses(STATE, "14: closed, the last second", x -> x.watch(CLOSED, 999_999));
    }

    private static void tick() {
        for (int bad : new int[] {0, -1, 5_001, LOW, HIGH}) {
            SOME.refuses(RANGE, "15: " + bad, x -> x.tick(bad));
        }
    }

    private static void questions() {
        for (int unit : NO_UNITS) {
            SOME.refuses(UNKNOWN, "16: unit " + unit, x -> x.unitAt(unit, 0));
            SOME.refuses(UNKNOWN, "16: unit and what, " + unit, x -> x.unitAt(unit, 5));
        }
        for (int what : new int[] {-1, 5, LOW, HIGH}) {
            SOME.refuses(UNKNOWN, "16: what " + what, x -> x.unitAt(0, what));
        }
        for (int incident : NO_INCIDENTS) {
            SOME.refuses(UNKNOWN, "17: incident " + incident, x -> x.incidentAt(incident, 0));
            SOME.refuses(UNKNOWN, "17: incident and what, " + incident, x -> x.incidentAt(incident, 8));
        }
        for (int what : new int[] {-1, 8, LOW, HIGH}) {
            SOME.refuses(UNKNOWN, "17: what " + what, x -> x.incidentAt(0, what));
        }
        for (int what : new int[] {-1, 4, 9, 16, LOW, HIGH}) {
            SOME.refuses(UNKNOWN, "18: what " + what, x -> x.count(what));
        }
    }

    // All is full

    /** 24 units, all at incidents; 20 incidents of the places 0 .. 19, all open; 30 calls wait. */
    private static ReleaseRows full() {
        ReleaseRows x = new ReleaseRows();
        for (int unit = 0; unit < 24; unit++) {
            x.unit(unit, 0, 0, 0);
        }
        for (int place = 0; place < 20; place++) {
            x.call(place, false);
        }
        for (int i = 0; i < 54; i++) {
            x.call(i * 7 % 20, true);
        }
        return x;
    }

    private static List<Object> endOfFull(ReleaseRows x) {
        List<Object> all = new ArrayList<>();
        all.add(shown(x, 24, 20));
        for (int unit = 0; unit < 15; unit++) {
            x.release(unit * 7 % 20, 1);
        }
        for (int unit = 14; unit >= 4; unit--) {
            x.back(unit);
            all.add(x.unitAt(unit, 1));
        }
        all.add(x.count(2));
        return all;
    }

    private static void noRoom() {
        Scene s = new Scene(RefusalsTest::full, RefusalsTest::endOfFull);
        s.refuses(ROOM, "2: a 25th", x -> x.unit(0, 0, 0, 0));
        s.refuses(ROOM, "2: a 25th, all the most", x -> x.unit(99_999, 10_000, 10_000, 255));
        for (int bad : new int[] {-1, 100_000}) {
            s.refuses(RANGE, "2: range before room, home " + bad, x -> x.unit(bad, 0, 0, 0));
            s.refuses(RANGE, "2: range before room, cleaning " + bad, x -> x.unit(0, bad, 0, 0));
            s.refuses(RANGE, "2: range before room, refilling " + bad, x -> x.unit(0, 0, bad, 0));
            s.refuses(RANGE, "2: range before room, checks " + bad, x -> x.unit(0, 0, 0, bad));
        }
        s.refuses(ROOM, "5: a 31st waits", x -> x.call(0, true));
        s.refuses(ROOM, "5: a 21st incident", x -> x.call(20, false));
        s.refuses(ROOM, "5: a 21st incident and a 31st waits", x -> x.call(99, true));
        for (int bad : new int[] {-1, 100}) {
            s.refuses(RANGE, "5: range before room, " + bad, x -> x.call(bad, false));
            s.refuses(RANGE, "5: range before room, waits, " + bad, x -> x.call(bad, true));
        }
    }

    // A closed incident, and no room

    /** Incident 0 of place 0 closed at second 0; 30 calls wait for another one. */
    private static ReleaseRows closedAndRowFull() {
        ReleaseRows x = new ReleaseRows();
        x.unit(0, 0, 0, 0);
        x.call(0, false);
        x.report(0, 6);
        runToClose(x, 0, 0);
        for (int i = 0; i < 30; i++) {
            x.call(1, true);
        }
        x.tick(600);
        return x;
    }

    /** Of 20 incidents number 0, of place 0, closed 601 seconds ago; no call waits. */
    private static ReleaseRows closedAndIncidentsFull() {
        ReleaseRows x = new ReleaseRows();
        x.unit(0, 0, 0, 0);
        for (int place = 0; place < 20; place++) {
            x.call(place, false);
        }
        x.report(0, 6);
        runToClose(x, 0, 0);
        x.tick(601);
        return x;
    }

    private static List<Object> endOfClosed(ReleaseRows x) {
        List<Object> all = new ArrayList<>();
        all.add(shown(x, 1, 2));
        x.span(601);
        all.add(x.call(0, false));
        x.back(0);
        all.add(shown(x, 1, 2));
        return all;
    }

    private static void noRoomToOpenAgain() {
        Scene row = new Scene(RefusalsTest::closedAndRowFull, RefusalsTest::endOfClosed);
        row.refuses(ROOM, "5: a closed one, a 31st waits", x -> x.call(0, true));
        row.refuses(ROOM, "5: a new one, a 31st waits", x -> x.call(2, true));
        Scene incidents = new Scene(RefusalsTest::closedAndIncidentsFull, RefusalsTest::endOfClosed);
        incidents.refuses(ROOM, "5: a closed one, too long ago", x -> x.call(0, false));
        incidents.refuses(ROOM, "5: a closed one, too long ago, waits", x -> x.call(0, true));
    }

    // Stores

    /** Unit 0 used 99,500 of good 0 and 1 of good 1; of good 5 there are 9,999,999. */
    private static ReleaseRows nearlyFullStores() {
        ReleaseRows x = new ReleaseRows();
        x.unit(0, 5, 0, 0);
        x.call(0, false);
        x.send(0, 0);
        for (int i = 0; i < 99; i++) {
            x.use(0, 0, 1_000);
            x.deliver(5, 100_000);
        }
        x.use(0, 0, 500);
        x.use(0, 1, 1);
        x.deliver(5, 99_999);
        return x;
    }

    private static ReleaseRows fullStores() {
        ReleaseRows x = nearlyFullStores();
        x.use(0, 0, 500);
        x.deliver(5, 1);
        return x;
    }

    private static ReleaseRows fullStoresAtHome() {
        ReleaseRows x = fullStores();
        x.release(0, 1);
        x.back(0);
        return x;
    }

    private static List<Object> endOfStores(ReleaseRows x) {
        List<Object> all = new ArrayList<>();
        all.add(shown(x, 1, 1));
        if (x.unitAt(0, 0) == AT_INCIDENT) {
            all.add(x.use(0, 1, 1));
            x.release(0, 1);
            all.add(x.use(0, 1, 1));
            x.back(0);
        }
        x.tick(5);
        all.add(x.deliver(1, 3));
        all.add(x.deliver(0, 99_500));
        all.add(x.unitAt(0, 0));
        all.add(x.deliver(0, 500));
        all.add(shown(x, 1, 1));
        return all;
    }

    private static void noRoomInStores() {
        Scene nearly = new Scene(RefusalsTest::nearlyFullStores, RefusalsTest::endOfStores);
        nearly.refuses(ROOM, "9: 100,001", x -> x.use(0, 0, 501));
        nearly.refuses(ROOM, "9: 100,500", x -> x.use(0, 0, 1_000));
        nearly.refuses(ROOM, "10: 10,000,001", x -> x.deliver(5, 2));
        nearly.refuses(ROOM, "10: 10,099,999", x -> x.deliver(5, 100_000));
        due("9: 100,000", nearlyFullStores().use(0, 0, 500), 100_000);
        due("9: another good has room", nearlyFullStores().use(0, 1, 1_000), 1_001);
        due("10: 10,000,000", nearlyFullStores().deliver(5, 1), 10_000_000);
        due("10: another good has room", nearlyFullStores().deliver(4, 100_000), 100_000);
        Scene full = new Scene(RefusalsTest::fullStores, RefusalsTest::endOfStores);
        full.refuses(ROOM, "9: full", x -> x.use(0, 0, 1));
        full.refuses(ROOM, "10: full", x -> x.deliver(5, 1));
        due("10: none more", fullStores().deliver(5, 0), 10_000_000);
        for (int bad : new int[] {0, -1, 1_001, LOW, HIGH}) {
            full.refuses(RANGE, "9: range before room, " + bad, x -> x.use(0, 0, bad));
        }
        for (int bad : new int[] {-1, 100_001, LOW, HIGH}) {
            full.refuses(RANGE, "10: range before room, " + bad, x -> x.deliver(5, bad));
        }
        Scene home = new Scene(RefusalsTest::fullStoresAtHome, RefusalsTest::endOfStores);
        home.refuses(STATE, "9: state before room", x -> x.use(0, 0, 1));
        home.refuses(RANGE, "9: range before state and room", x -> x.use(0, 0, 1_001));
    }

    // The end of time

    /** A watch up to the last second, and a unit whose cleaning would end after it. */
    private static ReleaseRows nearlyAtTheEnd() {
        ReleaseRows x = new ReleaseRows();
        x.unit(0, 10, 0, 0);
        x.call(0, false);
        x.watch(0, 999_999);
        tickTo(x, 999_990);
        runToClose(x, 0, 0);
        x.back(0);
        x.tick(8);
        return x;
    }

    private static List<Object> endOfTime(ReleaseRows x) {
        List<Object> all = new ArrayList<>();
        all.add(shown(x, 1, 1));
        if (x.count(0) < 999_999) {
            all.add(x.tick(1));
        }
        all.add(shown(x, 1, 1));
        return all;
    }

    private static void noTimeLeft() {
        Scene nearly = new Scene(RefusalsTest::nearlyAtTheEnd, RefusalsTest::endOfTime);
        nearly.refuses(RANGE, "15: second 1,000,000", x -> x.tick(2));
        nearly.refuses(RANGE, "15: the longest tick", x -> x.tick(5_000));
        nearly.refuses(RANGE, "15: a tick too long", x -> x.tick(5_001));
        nearly.refuses(RANGE, "15: no tick", x -> x.tick(0));
        Scene last = new Scene(() -> {
            ReleaseRows x = nearlyAtTheEnd();
            due("15: the last second", x.tick(1), 1);
            return x;
        }, RefusalsTest::endOfTime);
        last.refuses(RANGE, "15: beyond the last second", x -> x.tick(1));
        last.refuses(RANGE, "15: no tick in the last second", x -> x.tick(0));
        last.refuses(RANGE, "15: back from the last second", x -> x.tick(-1));
        last.refuses(RANGE, "15: far beyond", x -> x.tick(HIGH));
    }

    public static void main(String[] args) {
        theSceneIsAsToldAbove();
        nothingIsKnownOfANewObject();
        unit();
        home();
        span();
        call();
        send();
        release();
        back();
        use();
        deliver();
        check();
        inside();
        report();
        watch();
        tick();
        questions();
        noRoom();
        noRoomToOpenAgain();
        noRoomInStores();
        noTimeLeft();
        end();
    }
}
