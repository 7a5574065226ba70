import java.util.List;

/** Each promise by itself: ordinary inputs, the document's edges, wrong inputs and the order of refusals. */
public final class PromisesTest extends Due {
    private static void newObject() {
        ReleaseRows x = new ReleaseRows();
        for (int what : new int[] {0, 1, 2, 3, 10, 11, 12, 13, 14, 15}) {
            due("1: count(" + what + ")", x.count(what), 0);
        }
        refused("1: unitAt", UNKNOWN, () -> x.unitAt(0, 0));
        refused("1: incidentAt", UNKNOWN, () -> x.incidentAt(0, 0));
        ReleaseRows y = new ReleaseRows();
        y.unit(1, 1, 1, 1);
        y.deliver(0, 5);
        due("1: another object's units", x.count(1), 0);
        due("1: another object's stock", x.count(10), 0);
    }

    private static void unit() {
        ReleaseRows x = new ReleaseRows();
        due("2: first", x.unit(0, 0, 0, 0), 0);
        due("2: greatest", x.unit(99_999, 10_000, 10_000, 255), 1);
        for (int bad : new int[] {-1, LOW, HIGH}) {
            refused("2: home", RANGE, () -> x.unit(bad, 0, 0, 0));
            refused("2: cleaning", RANGE, () -> x.unit(0, bad, 0, 0));
            refused("2: refilling", RANGE, () -> x.unit(0, 0, bad, 0));
            refused("2: checks", RANGE, () -> x.unit(0, 0, 0, bad));
        }
        refused("2: home above", RANGE, () -> x.unit(100_000, 0, 0, 0));
        refused("2: cleaning above", RANGE, () -> x.unit(0, 10_001, 0, 0));
        refused("2: refilling above", RANGE, () -> x.unit(0, 0, 10_001, 0));
        refused("2: checks above", RANGE, () -> x.unit(0, 0, 0, 256));
        due("2: refused made none", x.count(1), 2);
        x.tick(7);
        for (int unit = 2; unit < 24; unit++) {
            due("2: next", x.unit(unit, 0, 0, 0), unit);
        }
        due("2: ready", x.unitAt(23, 0), READY);
        due("2: no incident", x.unitAt(23, 1), -1);
        due("2: since", x.unitAt(23, 2), 7);
        due("2: never sent", x.unitAt(23, 4), 0);
        refused("2: no room", ROOM, () -> x.unit(0, 0, 0, 0));
        refused("2: range before room", RANGE, () -> x.unit(-1, 0, 0, 0));
        due("2: 24 ready", x.count(1), 24);
    }

    private static void newUnitGetsWaitingCall() {
        ReleaseRows x = new ReleaseRows();
        x.call(4, true);
        x.unit(10, 1, 1, 1);
        due("2: a new unit goes to the call that waits", x.unitAt(0, 0), AT_INCIDENT);
        due("2: no call waits", x.count(2), 0);
    }

    private static void home() {
        ReleaseRows x = new ReleaseRows();
        x.unit(10, 0, 0, 0);
        x.unit(20, 0, 0, 0);
        x.home(0, 99_999);
        refused("3: no unit", UNKNOWN, () -> x.home(2, 0));
        refused("3: negative unit", UNKNOWN, () -> x.home(-1, 0));
        refused("3: unknown before range", UNKNOWN, () -> x.home(24, -1));
        refused("3: below", RANGE, () -> x.home(0, -1));
        refused("3: above", RANGE, () -> x.home(0, 100_000));
        x.call(1, true);
        due("3: the other one is nearer now", x.unitAt(1, 1), 0);
        x.home(1, 0);
        x.send(0, 0);
        x.home(0, 0);
        x.home(1, 1);
        x.release(0, 1);
        due("3: distance 0 stays", x.unitAt(0, 0), AT_INCIDENT);
        due("3: distance 1 is farther", x.unitAt(1, 0), RETURNING);
    }

    private static void span() {
        ReleaseRows x = new ReleaseRows();
        x.unit(0, 0, 0, 0);
        x.call(3, false);
        runToClose(x, 0, 0);
        x.back(0);
        x.tick(600);
        due("4: 600 at first", x.call(3, false), 0);
        runToClose(x, 0, 0);
        x.back(0);
        x.tick(601);
        refused("4: below", RANGE, () -> x.span(-1));
        refused("4: above", RANGE, () -> x.span(100_001));
        due("4: longer ago than 600", x.call(3, false), 1);
        x.span(0);
        runToClose(x, 0, 1);
        due("4: span 0, same second", x.call(3, false), 1);
        x.back(0);
        runToClose(x, 0, 1);
        x.tick(1);
        due("4: span 0, a second later", x.call(3, false), 2);
        x.back(0);
        runToClose(x, 0, 2);
        x.span(100_000);
        tickTo(x, x.incidentAt(2, 5) + 100_000);
        due("4: span 100,000", x.call(3, false), 2);
    }

    private static void call() {
        ReleaseRows x = new ReleaseRows();
        due("5: first", x.call(0, false), 0);
        due("5: open", x.incidentAt(0, 0), 1);
        due("5: last place", x.call(99, false), 1);
        due("5: open one again", x.call(0, false), 0);
        due("5: opened once", x.incidentAt(0, 3), 1);
        refused("5: below", RANGE, () -> x.call(-1, true));
        refused("5: above", RANGE, () -> x.call(100, false));
        for (int place = 1; place < 19; place++) {
            due("5: next", x.call(place, false), place + 1);
        }
        List<Integer> before = shown(x, 0, 20);
        refused("5: a 21st", ROOM, () -> x.call(50, false));
        refused("5: a 21st that waits", ROOM, () -> x.call(50, true));
        refused("5: range before room", RANGE, () -> x.call(100, true));
        due("5: refused changes nothing", shown(x, 0, 20), before);
        due("5: known place still", x.call(18, true), 19);
        due("5: it waits", x.incidentAt(19, 2), 1);
    }

    private static void callsThatWait() {
        ReleaseRows x = new ReleaseRows();
        for (int i = 0; i < 30; i++) {
            x.call(i % 3, true);
        }
        due("5: 30 wait", x.count(2), 30);
        refused("5: a 31st", ROOM, () -> x.call(0, true));
        refused("5: a 31st of a new place", ROOM, () -> x.call(9, true));
        due("5: no incident made", x.count(3), 3);
        due("5: still 30", x.count(2), 30);
        due("5: not waiting is fine", x.call(9, false), 3);
        x.unit(5, 0, 0, 0);
        x.unit(5, 0, 0, 0);
        due("5: the first call's", x.unitAt(0, 1), 0);
        due("5: the second call's", x.unitAt(1, 1), 1);
        due("5: 28 wait", x.count(2), 28);
        due("5: waiting for 2", x.incidentAt(2, 2), 10);
        due("5: waiting for 0", x.incidentAt(0, 2), 9);
    }

    private static void refusedCallDoesNotReopen() {
        ReleaseRows x = new ReleaseRows();
        x.unit(0, 10, 0, 0);
        x.call(1, false);
        runToClose(x, 0, 0);
        for (int i = 0; i < 30; i++) {
            x.call(2, true);
        }
        refused("5: no room to wait", ROOM, () -> x.call(1, true));
        due("5: not opened again", x.incidentAt(0, 0), 0);
        due("5: opened once", x.incidentAt(0, 3), 1);
        due("5: opened again", x.call(1, false), 0);
        due("5: opened twice", x.incidentAt(0, 3), 2);
    }

    private static void callGetsNearestReady() {
        ReleaseRows x = new ReleaseRows();
        x.unit(30, 0, 0, 0);
        x.unit(20, 0, 0, 0);
        x.unit(20, 0, 0, 0);
        x.unit(25, 0, 0, 0);
        x.tick(3);
        x.call(6, true);
        due("5: least distance, lowest", x.unitAt(1, 0), AT_INCIDENT);
        due("5: since", x.unitAt(1, 2), 3);
        due("5: no other", x.count(1), 3);
        x.call(7, true);
        due("5: same distance next", x.unitAt(2, 1), 1);
        x.call(6, true);
        due("5: then 25", x.unitAt(3, 1), 0);
        x.call(6, true);
        due("5: then 30", x.unitAt(0, 1), 0);
        due("5: units there", x.incidentAt(0, 1), 3);
        due("5: sent by a call", x.unitAt(0, 4), 1);
    }

    private static void reopenedIsBare() {
        ReleaseRows x = new ReleaseRows();
        x.unit(0, 0, 0, 0);
        x.call(1, false);
        x.watch(0, 5);
        x.inside(0, 2);
        x.report(0, 7);
        runToClose(x, 0, 0);
        x.inside(0, 0);
        due("5: closes with its watch", x.tick(5), 1);
        due("5: rows as told", x.incidentAt(0, 6), 135);
        x.call(1, false);
        due("5: no rows", x.incidentAt(0, 6), 0);
        due("5: no watch", x.incidentAt(0, 7), 0);
        tellRows(x, 0);
        due("5: no unit was there", x.incidentAt(0, 0), 1);
        x.back(0);
        x.send(0, 0);
        x.release(0, 1);
        due("5: nobody inside, no watch", x.incidentAt(0, 0), 0);
        due("5: closed twice", x.incidentAt(0, 4), 2);
    }

    private static void send() {
        ReleaseRows x = new ReleaseRows();
        x.unit(0, 0, 0, 0);
        x.unit(0, 0, 0, 0);
        x.call(1, false);
        x.call(2, false);
        x.tick(9);
        x.send(0, 1);
        due("6: is", x.unitAt(0, 0), AT_INCIDENT);
        due("6: incident", x.unitAt(0, 1), 1);
        due("6: since", x.unitAt(0, 2), 9);
        due("6: sent", x.unitAt(0, 4), 1);
        due("6: ready", x.count(1), 1);
        List<Integer> before = shown(x, 2, 2);
        refused("6: no unit", UNKNOWN, () -> x.send(2, 0));
        refused("6: unit -1", UNKNOWN, () -> x.send(-1, 0));
        refused("6: no incident", UNKNOWN, () -> x.send(1, 2));
        refused("6: incident -1", UNKNOWN, () -> x.send(1, -1));
        refused("6: not ready", STATE, () -> x.send(0, 0));
        refused("6: unknown before state", UNKNOWN, () -> x.send(0, 2));
        due("6: refused changes nothing", shown(x, 2, 2), before);
        tellRows(x, 1);
        x.release(1, 1);
        refused("6: closed", STATE, () -> x.send(1, 1));
        refused("6: returning", STATE, () -> x.send(0, 0));
        x.back(0);
        x.send(0, 0);
        due("6: sent again", x.unitAt(0, 4), 2);
    }

    private static void release() {
        ReleaseRows x = new ReleaseRows();
        for (int distance : new int[] {10, 30, 30, 20}) {
            x.unit(distance, 0, 0, 0);
        }
        x.unit(99, 0, 0, 0);
        x.call(1, false);
        x.call(2, false);
        due("7: none there", x.release(0, 24), 0);
        for (int unit = 0; unit < 4; unit++) {
            x.send(unit, 0);
        }
        x.send(4, 1);
        List<Integer> before = shown(x, 5, 2);
        refused("7: no incident", UNKNOWN, () -> x.release(2, 1));
        refused("7: incident -1", UNKNOWN, () -> x.release(-1, 0));
        refused("7: n 0", RANGE, () -> x.release(0, 0));
        refused("7: n 25", RANGE, () -> x.release(0, 25));
        due("7: refused changes nothing", shown(x, 5, 2), before);
        x.tick(4);
        due("7: one", x.release(0, 1), 1);
        due("7: far, lowest", x.unitAt(1, 0), RETURNING);
        due("7: same distance stays", x.unitAt(2, 0), AT_INCIDENT);
        due("7: no incident now", x.unitAt(1, 1), -1);
        due("7: since", x.unitAt(1, 2), 4);
        due("7: two", x.release(0, 2), 2);
        due("7: nearest stays", x.unitAt(0, 0), AT_INCIDENT);
        due("7: of another incident", x.unitAt(4, 0), AT_INCIDENT);
        due("7: one was there", x.release(0, 24), 1);
        due("7: open still", x.incidentAt(0, 0), 1);
        tellRows(x, 0);
        refused("7: closed", STATE, () -> x.release(0, 1));
        refused("7: range before state", RANGE, () -> x.release(0, 0));
    }

    private static void releaseAllOfTheSameDistance() {
        ReleaseRows x = new ReleaseRows();
        for (int unit = 0; unit < 24; unit++) {
            x.unit(5, 0, 0, 0);
        }
        x.call(1, false);
        for (int unit = 23; unit >= 0; unit--) {
            x.send(unit, 0);
        }
        due("7: 24 are there", x.incidentAt(0, 1), 24);
        for (int unit = 0; unit < 3; unit++) {
            due("7: one of the same distance", x.release(0, 1), 1);
            due("7: the lowest is released", x.unitAt(unit, 0), RETURNING);
            due("7: the next stays", x.unitAt(unit + 1, 0), AT_INCIDENT);
        }
        for (int unit = 0; unit < 3; unit++) {
            x.back(unit);
            x.send(unit, 0);
        }
        due("7: 24 of 24", x.release(0, 24), 24);
        due("7: none is there", x.incidentAt(0, 1), 0);
        due("7: none of 24 to release", x.release(0, 24), 0);
        for (int unit = 0; unit < 24; unit++) {
            due("7: all return", x.unitAt(unit, 0), RETURNING);
        }
    }

    private static void back() {
        ReleaseRows x = new ReleaseRows();
        x.unit(0, 10, 20, 1);
        x.call(1, false);
        x.send(0, 0);
        refused("8: no unit", UNKNOWN, () -> x.back(1));
        refused("8: unit -1", UNKNOWN, () -> x.back(-1));
        refused("8: at an incident", STATE, () -> x.back(0));
        due("8: refused changes nothing", x.unitAt(0, 0), AT_INCIDENT);
        x.release(0, 1);
        x.tick(5);
        x.back(0);
        due("8: cleaning", x.unitAt(0, 0), CLEANING);
        due("8: since", x.unitAt(0, 2), 5);
        refused("8: cleaning", STATE, () -> x.back(0));
        x.tick(9);
        due("8: cleaning still", x.unitAt(0, 0), CLEANING);
        x.tick(1);
        due("8: refilling", x.unitAt(0, 0), REFILLING);
        due("8: since cleaning's end", x.unitAt(0, 2), 15);
        x.tick(19);
        due("8: refilling still", x.unitAt(0, 0), REFILLING);
        x.tick(1);
        due("8: checked", x.unitAt(0, 0), CHECKED);
        due("8: since refilling's end", x.unitAt(0, 2), 35);
    }

    private static void backInOneGo() {
        ReleaseRows x = new ReleaseRows();
        x.unit(0, 3, 4, 0);
        x.unit(0, 0, 0, 0);
        x.unit(0, 0, 5, 1);
        x.call(1, false);
        for (int unit = 0; unit < 3; unit++) {
            x.send(unit, 0);
        }
        x.release(0, 3);
        for (int unit = 0; unit < 3; unit++) {
            x.back(unit);
        }
        due("8: all at once", x.unitAt(1, 0), READY);
        due("8: no cleaning", x.unitAt(2, 0), REFILLING);
        x.tick(100);
        due("8: ready", x.unitAt(0, 0), READY);
        due("8: since second 7", x.unitAt(0, 2), 7);
        due("8: checked since 5", x.unitAt(2, 2), 5);
    }

    private static void use() {
        ReleaseRows x = new ReleaseRows();
        x.unit(0, 5, 0, 1);
        x.call(1, false);
        refused("9: ready", STATE, () -> x.use(0, 0, 1));
        x.send(0, 0);
        refused("9: no unit", UNKNOWN, () -> x.use(1, 0, 1));
        refused("9: unit -1", UNKNOWN, () -> x.use(-1, 0, 0));
        refused("9: no good", UNKNOWN, () -> x.use(0, 6, 0));
        refused("9: good -1", UNKNOWN, () -> x.use(0, -1, 1));
        refused("9: n 0", RANGE, () -> x.use(0, 0, 0));
        refused("9: n 1,001", RANGE, () -> x.use(0, 0, 1_001));
        for (int i = 1; i < 100; i++) {
            due("9: in all", x.use(0, 0, 1_000), i * 1_000);
        }
        due("9: another good", x.use(0, 5, 1), 1);
        due("9: 99,999", x.use(0, 0, 999), 99_999);
        refused("9: 100,001", ROOM, () -> x.use(0, 0, 2));
        refused("9: range before room", RANGE, () -> x.use(0, 0, 1_001));
        x.release(0, 1);
        due("9: returning, 100,000", x.use(0, 0, 1), 100_000);
        refused("9: no more", ROOM, () -> x.use(0, 0, 1));
        x.back(0);
        refused("9: state before room", STATE, () -> x.use(0, 0, 1));
        refused("9: range before state", RANGE, () -> x.use(0, 0, 0));
        x.deliver(5, 1);
        x.deliver(0, 100_000);
        x.tick(5);
        due("9: refilled", x.unitAt(0, 0), CHECKED);
        due("9: stock taken", x.count(10), 0);
        refused("9: checked", STATE, () -> x.use(0, 0, 1));
        x.check(0, 1);
        x.send(0, 0);
        due("9: since it was refilled", x.use(0, 0, 3), 3);
    }

    private static void deliver() {
        ReleaseRows x = new ReleaseRows();
        due("10: none", x.deliver(3, 0), 0);
        refused("10: good 6", UNKNOWN, () -> x.deliver(6, 1));
        refused("10: good -1", UNKNOWN, () -> x.deliver(-1, -1));
        refused("10: n -1", RANGE, () -> x.deliver(0, -1));
        refused("10: n 100,001", RANGE, () -> x.deliver(0, 100_001));
        for (int i = 1; i <= 100; i++) {
            due("10: more", x.deliver(2, 100_000), i * 100_000);
        }
        refused("10: above 10,000,000", ROOM, () -> x.deliver(2, 1));
        refused("10: range before room", RANGE, () -> x.deliver(2, 100_001));
        due("10: full", x.deliver(2, 0), 10_000_000);
        due("10: another good", x.deliver(5, 1), 1);
        due("10: count", x.count(12), 10_000_000);
    }

    private static void deliverLetsUnitsGoOn() {
        ReleaseRows x = new ReleaseRows();
        x.unit(0, 0, 0, 0);
        x.unit(0, 0, 0, 0);
        x.unit(0, 0, 0, 0);
        x.call(1, false);
        for (int unit = 0; unit < 3; unit++) {
            x.send(unit, 0);
        }
        x.use(0, 0, 10);
        x.use(0, 1, 1);
        x.use(1, 0, 6);
        x.use(2, 0, 5);
        x.release(0, 3);
        for (int unit = 2; unit >= 0; unit--) {
            x.back(unit);
        }
        x.tick(50);
        due("10: waits for goods", x.unitAt(1, 0), REFILLING);
        due("10: since", x.unitAt(1, 2), 0);
        due("10: before units go on", x.deliver(0, 11), 11);
        due("10: unit 0 lacks good 1", x.unitAt(0, 0), REFILLING);
        due("10: unit 1 has all", x.unitAt(1, 0), READY);
        due("10: ready since", x.unitAt(1, 2), 50);
        due("10: unit 2 takes the rest", x.unitAt(2, 0), READY);
        due("10: nothing left", x.count(10), 0);
        due("10: nothing taken in part", x.deliver(1, 1), 1);
        due("10: kept", x.count(11), 1);
        x.deliver(0, 10);
        due("10: unit 0 has all", x.unitAt(0, 0), READY);
        due("10: taken", x.count(11), 0);
    }

    private static void lowestUnitTakesStock() {
        ReleaseRows x = new ReleaseRows();
        x.unit(0, 10, 0, 0);
        x.unit(0, 5, 5, 0);
        x.call(1, false);
        x.send(0, 0);
        x.send(1, 0);
        x.use(0, 0, 2);
        x.use(1, 0, 2);
        x.deliver(0, 3);
        x.release(0, 2);
        x.back(1);
        x.back(0);
        x.tick(10);
        due("15: units by numbers: 0 took", x.unitAt(0, 0), READY);
        due("15: units by numbers: 1 lacks", x.unitAt(1, 0), REFILLING);
    }

    private static void check() {
        ReleaseRows x = new ReleaseRows();
        x.unit(0, 0, 0, 0b10110);
        x.call(1, false);
        refused("11: ready", STATE, () -> x.check(0, 1));
        due("11: nothing to do when ready", x.unitAt(0, 3), 0);
        x.send(0, 0);
        x.release(0, 1);
        due("11: nothing to do when returning", x.unitAt(0, 3), 0);
        x.back(0);
        refused("11: no unit", UNKNOWN, () -> x.check(1, 256));
        refused("11: unit -1", UNKNOWN, () -> x.check(-1, 0));
        refused("11: bits 256", RANGE, () -> x.check(0, 256));
        refused("11: bits -1", RANGE, () -> x.check(0, -1));
        due("11: all to do", x.unitAt(0, 3), 0b10110);
        x.check(0, 0);
        x.check(0, 0b01001);
        due("11: others do not help", x.unitAt(0, 3), 0b10110);
        x.check(0, 0b00100);
        x.check(0, 0b00010);
        due("11: one to do", x.unitAt(0, 3), 0b10000);
        x.tick(6);
        x.check(0, 255);
        due("11: ready", x.unitAt(0, 0), READY);
        due("11: since", x.unitAt(0, 2), 6);
        refused("11: state", STATE, () -> x.check(0, 0));
        refused("11: range before state", RANGE, () -> x.check(0, 256));
        x.send(0, 0);
        x.release(0, 1);
        x.back(0);
        due("11: none done again", x.unitAt(0, 3), 0b10110);
    }

    private static void readyAgainGoesToCall() {
        ReleaseRows x = new ReleaseRows();
        x.unit(0, 0, 0, 1);
        x.call(1, true);
        x.release(0, 1);
        x.call(2, true);
        x.call(1, true);
        x.back(0);
        due("11: two wait", x.count(2), 2);
        x.check(0, 1);
        due("11: the first of them", x.unitAt(0, 1), 1);
        due("11: one waits", x.count(2), 1);
        due("11: sent twice", x.unitAt(0, 4), 2);
    }

    private static void inside() {
        ReleaseRows x = new ReleaseRows();
        x.unit(0, 0, 0, 0);
        x.call(1, false);
        x.inside(0, 1_000);
        refused("12: no incident", UNKNOWN, () -> x.inside(1, -1));
        refused("12: incident -1", UNKNOWN, () -> x.inside(-1, 0));
        refused("12: n -1", RANGE, () -> x.inside(0, -1));
        refused("12: n 1,001", RANGE, () -> x.inside(0, 1_001));
        runToClose(x, 0, 0);
        due("12: open", x.incidentAt(0, 0), 1);
        x.inside(0, 1);
        due("12: one is inside", x.incidentAt(0, 0), 1);
        x.inside(0, 0);
        due("12: closed", x.incidentAt(0, 0), 0);
        refused("12: state", STATE, () -> x.inside(0, 0));
        refused("12: range before state", RANGE, () -> x.inside(0, 1_001));
    }

    private static void report() {
        ReleaseRows x = new ReleaseRows();
        x.unit(0, 0, 0, 0);
        x.call(1, false);
        refused("13: no incident", UNKNOWN, () -> x.report(1, 0));
        refused("13: incident -1", UNKNOWN, () -> x.report(-1, 0));
        refused("13: row 8", UNKNOWN, () -> x.report(0, 8));
        refused("13: row -1", UNKNOWN, () -> x.report(0, -1));
        due("13: none told", x.incidentAt(0, 6), 0);
        x.send(0, 0);
        x.release(0, 1);
        int told = 0;
        for (int row = 7; row > 0; row--) {
            x.report(0, row);
            x.report(0, row);
            told |= 1 << row;
            due("13: told", x.incidentAt(0, 6), told);
        }
        due("13: open without row 0", x.incidentAt(0, 0), 1);
        x.report(0, 0);
        due("13: closed", x.incidentAt(0, 0), 0);
        refused("13: state", STATE, () -> x.report(0, 0));
        refused("13: unknown before state", UNKNOWN, () -> x.report(0, 8));
    }

    private static void eachOfTheRowsIsNeeded() {
        for (int missing = 0; missing < 3; missing++) {
            ReleaseRows x = new ReleaseRows();
            x.unit(0, 0, 0, 0);
            x.call(1, false);
            x.send(0, 0);
            x.release(0, 1);
            for (int row = 0; row < 8; row++) {
                if (row != missing) {
                    x.report(0, row);
                }
            }
            due("13: open without " + missing, x.incidentAt(0, 0), 1);
            x.report(0, missing);
            due("13: closed with " + missing, x.incidentAt(0, 0), 0);
        }
    }

    private static void watch() {
        ReleaseRows x = new ReleaseRows();
        x.unit(0, 0, 0, 0);
        x.call(1, false);
        refused("14: no incident", UNKNOWN, () -> x.watch(1, -2));
        refused("14: incident -1", UNKNOWN, () -> x.watch(-1, 0));
        refused("14: second -2", RANGE, () -> x.watch(0, -2));
        refused("14: second 1,000,000", RANGE, () -> x.watch(0, 1_000_000));
        x.watch(0, 999_999);
        runToClose(x, 0, 0);
        due("14: open", x.incidentAt(0, 0), 1);
        x.watch(0, 20);
        due("14: nothing closes before", x.tick(19), 0);
        due("14: not ended", x.incidentAt(0, 7), 0);
        due("14: closes at its end", x.tick(1), 1);
        due("14: closed at", x.incidentAt(0, 5), 20);
        due("14: not open all the same", x.incidentAt(0, 7), 0);
        refused("14: state", STATE, () -> x.watch(0, -1));
        refused("14: range before state", RANGE, () -> x.watch(0, -2));
    }

    private static void watchEndedOrTakenBack() {
        ReleaseRows x = new ReleaseRows();
        x.unit(0, 0, 0, 0);
        x.call(1, false);
        x.call(2, false);
        x.tick(10);
        due("14: no watch has not ended", x.incidentAt(0, 7), 0);
        x.watch(0, 11);
        due("14: to come", x.incidentAt(0, 7), 0);
        x.watch(0, 10);
        due("14: ended now", x.incidentAt(0, 7), 1);
        x.watch(0, 0);
        due("14: ended before", x.incidentAt(0, 7), 1);
        x.watch(0, -1);
        due("14: none", x.incidentAt(0, 7), 0);
        x.watch(0, 500);
        runToClose(x, 0, 0);
        x.watch(0, -1);
        due("14: closes when it is taken back", x.incidentAt(0, 0), 0);
        x.back(0);
        x.watch(1, 500);
        runToClose(x, 0, 1);
        x.watch(1, 10);
        due("14: closes when it ends now", x.incidentAt(1, 5), 10);
    }

    private static void tick() {
        ReleaseRows x = new ReleaseRows();
        for (int bad : new int[] {0, -1, 5_001, LOW, HIGH}) {
            refused("15: " + bad, RANGE, () -> x.tick(bad));
        }
        due("15: no time went", x.count(0), 0);
        due("15: 5,000", x.tick(5_000), 0);
        due("15: the second", x.count(0), 5_000);
        tickTo(x, 995_000);
        x.tick(4_998);
        refused("15: 1,000,000", RANGE, () -> x.tick(2));
        due("15: unchanged", x.count(0), 999_998);
        x.tick(1);
        refused("15: no time left", RANGE, () -> x.tick(1));
        due("15: last", x.count(0), 999_999);
    }

    private static void tickCloses() {
        ReleaseRows x = new ReleaseRows();
        for (int i = 0; i < 3; i++) {
            x.unit(0, 0, 0, 0);
            x.call(i, false);
            x.watch(i, i == 2 ? 31 : 10 + 20 * i);
            runToClose(x, i, i);
        }
        due("15: two closed", x.tick(30), 2);
        due("15: at 10", x.incidentAt(0, 5), 10);
        due("15: at 30", x.incidentAt(1, 5), 30);
        due("15: open", x.incidentAt(2, 5), -1);
        due("15: open ones", x.count(3), 1);
        due("15: the third", x.tick(5_000), 1);
        due("15: at 31", x.incidentAt(2, 5), 31);
        due("15: no more", x.tick(5_000), 0);
    }

    private static void oneSecondInOrder() {
        ReleaseRows x = new ReleaseRows();
        x.unit(50, 10, 0, 0);
        x.unit(40, 5, 5, 0);
        x.call(1, true);
        x.call(1, true);
        tellRows(x, 0);
        x.watch(0, 10);
        x.release(0, 2);
        x.back(0);
        x.back(1);
        x.call(1, true);
        due("15: units before calls before closing", x.tick(10), 0);
        due("15: nearest of those that are ready in the second", x.unitAt(1, 0), AT_INCIDENT);
        due("15: the other is ready", x.unitAt(0, 0), READY);
        x.release(0, 1);
        due("15: closes when none is there or waited for", x.incidentAt(0, 0), 0);
    }

    private static void waitedForStaysOpen() {
        ReleaseRows x = new ReleaseRows();
        x.unit(0, 5, 0, 0);
        x.call(1, true);
        tellRows(x, 0);
        x.call(1, true);
        x.release(0, 1);
        due("15: a call waits, so it is open", x.incidentAt(0, 0), 1);
        x.back(0);
        due("15: the unit goes there", x.tick(5), 0);
        due("15: at it", x.unitAt(0, 1), 0);
        x.release(0, 1);
        due("15: closed", x.incidentAt(0, 0), 0);
    }

    private static void unitAt() {
        ReleaseRows x = new ReleaseRows();
        x.unit(0, 0, 0, 3);
        refused("16: unit 1", UNKNOWN, () -> x.unitAt(1, 0));
        refused("16: unit -1", UNKNOWN, () -> x.unitAt(-1, 0));
        refused("16: what 5", UNKNOWN, () -> x.unitAt(0, 5));
        refused("16: what -1", UNKNOWN, () -> x.unitAt(0, -1));
        refused("16: far", UNKNOWN, () -> x.unitAt(HIGH, HIGH));
        int[] atFirst = {READY, -1, 0, 0, 0};
        for (int what = 0; what < 5; what++) {
            due("16: at first " + what, x.unitAt(0, what), atFirst[what]);
        }
        x.call(1, false);
        x.tick(2);
        x.send(0, 0);
        int[] sent = {AT_INCIDENT, 0, 2, 0, 1};
        for (int what = 0; what < 5; what++) {
            due("16: sent " + what, x.unitAt(0, what), sent[what]);
        }
        x.tick(2);
        x.release(0, 1);
        x.back(0);
        int[] home = {CHECKED, -1, 4, 3, 1};
        for (int what = 0; what < 5; what++) {
            due("16: home " + what, x.unitAt(0, what), home[what]);
        }
    }

    private static void checksToDoOnlyWhileItIsChecked() {
        ReleaseRows x = new ReleaseRows();
        x.unit(0, 5, 5, 255);
        x.call(1, false);
        due("16: ready, no checks to do", x.unitAt(0, 3), 0);
        x.send(0, 0);
        due("16: at an incident, no checks to do", x.unitAt(0, 3), 0);
        x.release(0, 1);
        due("16: returning, no checks to do", x.unitAt(0, 3), 0);
        x.back(0);
        due("16: cleaning, no checks to do", x.unitAt(0, 3), 0);
        x.tick(5);
        due("16: refilling, no checks to do", x.unitAt(0, 3), 0);
        x.tick(5);
        due("16: checked, all to do", x.unitAt(0, 3), 255);
        x.check(0, 254);
        due("16: checked, one to do", x.unitAt(0, 3), 1);
        x.check(0, 1);
        due("16: ready again, no checks to do", x.unitAt(0, 3), 0);
    }

    private static void incidentAt() {
        ReleaseRows x = new ReleaseRows();
        x.call(1, true);
        refused("17: incident 1", UNKNOWN, () -> x.incidentAt(1, 0));
        refused("17: incident -1", UNKNOWN, () -> x.incidentAt(-1, 0));
        refused("17: what 8", UNKNOWN, () -> x.incidentAt(0, 8));
        refused("17: what -1", UNKNOWN, () -> x.incidentAt(0, -1));
        int[] opened = {1, 0, 1, 1, 0, -1, 0, 0};
        for (int what = 0; what < 8; what++) {
            due("17: opened " + what, x.incidentAt(0, what), opened[what]);
        }
        x.unit(0, 0, 0, 0);
        x.watch(0, 3);
        x.tick(4);
        x.report(0, 1);
        int[] working = {1, 1, 0, 1, 0, -1, 2, 1};
        for (int what = 0; what < 8; what++) {
            due("17: working " + what, x.incidentAt(0, what), working[what]);
        }
        tellRows(x, 0);
        x.release(0, 1);
        int[] closed = {0, 0, 0, 1, 1, 4, 7, 0};
        for (int what = 0; what < 8; what++) {
            due("17: closed " + what, x.incidentAt(0, what), closed[what]);
        }
        x.call(1, false);
        int[] again = {1, 0, 0, 2, 1, 4, 0, 0};
        for (int what = 0; what < 8; what++) {
            due("17: again " + what, x.incidentAt(0, what), again[what]);
        }
    }

    private static void count() {
        ReleaseRows x = new ReleaseRows();
        for (int bad : new int[] {-1, 4, 9, 16, LOW, HIGH}) {
            refused("18: " + bad, UNKNOWN, () -> x.count(bad));
        }
        for (int good = 0; good < 6; good++) {
            x.deliver(good, good + 1);
            due("18: stock", x.count(10 + good), good + 1);
        }
        x.tick(12);
        due("18: second", x.count(0), 12);
        x.call(1, true);
        x.call(1, true);
        x.call(2, false);
        due("18: waiting", x.count(2), 2);
        due("18: open", x.count(3), 2);
        for (int i = 0; i < 5; i++) {
            x.unit(0, 0, 0, 0);
        }
        due("18: ready", x.count(1), 3);
        due("18: none waits", x.count(2), 0);
        tellRows(x, 0);
        x.release(0, 2);
        due("18: one open", x.count(3), 1);
    }

    private static void refusalsLeaveHiddenStateAlone() {
        ReleaseRows x = new ReleaseRows();
        x.unit(7, 2, 3, 1);
        x.call(1, false);
        x.send(0, 0);
        x.use(0, 4, 10);
        x.watch(0, 40);
        x.inside(0, 3);
        List<Integer> before = shown(x, 1, 1);
        refused("use", RANGE, () -> x.use(0, 4, 2_000));
        refused("deliver", RANGE, () -> x.deliver(4, 200_000));
        refused("inside", RANGE, () -> x.inside(0, 2_000));
        refused("watch", RANGE, () -> x.watch(0, 2_000_000));
        refused("span", RANGE, () -> x.span(200_000));
        refused("tick", RANGE, () -> x.tick(9_000));
        refused("check", STATE, () -> x.check(0, 1));
        due("what is shown", shown(x, 1, 1), before);
        due("used", x.use(0, 4, 1), 11);
        tellRows(x, 0);
        x.release(0, 1);
        due("someone is inside still", x.tick(40), 0);
        due("the watch's end is as it was", x.incidentAt(0, 7), 1);
        x.inside(0, 0);
        x.tick(601);
        due("the span is as it was", x.call(1, false), 1);
        x.back(0);
        x.tick(5);
        x.deliver(4, 11);
        due("the check that was refused is not done", x.unitAt(0, 3), 1);
    }

    public static void main(String[] args) {
        newObject();
        unit();
        newUnitGetsWaitingCall();
        home();
        span();
        call();
        callsThatWait();
        refusedCallDoesNotReopen();
        callGetsNearestReady();
        reopenedIsBare();
        send();
        release();
        releaseAllOfTheSameDistance();
        back();
        backInOneGo();
        use();
        deliver();
        deliverLetsUnitsGoOn();
        lowestUnitTakesStock();
        check();
        readyAgainGoesToCall();
        inside();
        report();
        eachOfTheRowsIsNeeded();
        watch();
        watchEndedOrTakenBack();
        tick();
        tickCloses();
        oneSecondInOrder();
        waitedForStaysOpen();
        unitAt();
        checksToDoOnlyWhileItIsChecked();
        incidentAt();
        count();
        refusalsLeaveHiddenStateAlone();
        end();
    }
}
