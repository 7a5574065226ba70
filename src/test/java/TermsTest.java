import java.util.Arrays;
import java.util.List;

/** Each sentence of the document's "Terms" that names a boundary, at both sides of it. */
public final class TermsTest extends Due {

    /** One unit and one open incident, of place 1, where it has not been. */
    private static ReleaseRows withUnit(int cleaning, int refilling, int checks) {
        ReleaseRows x = new ReleaseRows();
        x.unit(10, cleaning, refilling, checks);
        x.call(1, false);
        return x;
    }

    // TIME

    private static void timeIsZeroAtFirst() {
        due("TIME is 0 at first", new ReleaseRows().count(0), 0);
    }

    private static void timeGoesUpTo999999() {
        ReleaseRows x = new ReleaseRows();
        tickTo(x, 995_000);
        refused("TIME: 1,000,000 by the longest tick", RANGE, () -> x.tick(5_000));
        x.tick(4_998);
        refused("TIME: 1,000,000 by 2", RANGE, () -> x.tick(2));
        due("TIME: refused, it is 999,998", x.count(0), 999_998);
        due("TIME: 999,999", x.tick(1), 0);
        refused("TIME: 1,000,000 by 1", RANGE, () -> x.tick(1));
        refused("TIME: far beyond, without a wrap-around", RANGE, () -> x.tick(HIGH));
        due("TIME: it stays 999,999", x.count(0), 999_999);
    }

    private static void timeNeverGoesBack() {
        ReleaseRows x = new ReleaseRows();
        x.tick(100);
        for (int seconds : new int[] {0, -1, -100, -5_000, LOW}) {
            refused("TIME never goes back: " + seconds, RANGE, () -> x.tick(seconds));
        }
        due("TIME never went back", x.count(0), 100);
    }

    private static void theLastSecondIsLikeOthers() {
        ReleaseRows x = new ReleaseRows();
        x.unit(0, 10, 9, 0);
        x.unit(0, 10, 10, 0);
        x.unit(0, 0, 0, 0);
        x.call(1, false);
        x.call(2, false);
        x.watch(1, 999_999);
        tickTo(x, 999_980);
        x.send(0, 0);
        x.send(1, 0);
        x.release(0, 2);
        x.back(0);
        x.back(1);
        runToClose(x, 2, 1);
        due("the last second: one before it", x.tick(18), 0);
        due("the last second: a watch up to it ends", x.tick(1), 1);
        due("the last second: closed at", x.incidentAt(1, 5), 999_999);
        due("the last second: refilled at", x.unitAt(0, 2), 999_999);
        due("the last second: refilled", x.unitAt(0, 0), READY);
        due("beyond it nothing ends", x.unitAt(1, 0), REFILLING);
        due("the last second: within the span of itself", x.call(2, true), 1);
        due("the last second: a call gets a unit", x.unitAt(0, 1), 1);
    }

    // UNITS

    private static void unitsAreAtMost24() {
        ReleaseRows x = new ReleaseRows();
        refused("no unit: 0 is unknown", UNKNOWN, () -> x.unitAt(0, 0));
        for (int unit = 0; unit < 24; unit++) {
            due("UNITS 0, 1, ..", x.unit(unit, 0, 0, 0), unit);
            int next = unit + 1;
            refused("the next number is unknown", UNKNOWN, () -> x.unitAt(next, 0));
        }
        refused("at most 24: a 25th", ROOM, () -> x.unit(0, 0, 0, 0));
        refused("at most 24: number 24", UNKNOWN, () -> x.unitAt(24, 0));
        due("24 units", x.count(1), 24);
    }

    private static void theLastUnitIsLikeOthers() {
        ReleaseRows x = new ReleaseRows();
        for (int unit = 0; unit < 24; unit++) {
            x.unit(1_000 + unit, 0, unit, 255);
        }
        x.call(1, false);
        x.send(0, 0);
        x.send(23, 0);
        for (int good = 0; good < 6; good++) {
            due("the last unit uses", x.use(23, good, good + 1), good + 1);
            due("the first unit used nothing", x.use(0, good, 1), 1);
        }
        due("the last unit is the farthest", x.release(0, 1), 1);
        x.back(23);
        for (int good = 0; good < 6; good++) {
            x.deliver(good, good + 1);
        }
        x.tick(22);
        due("the last unit refills", x.unitAt(23, 0), REFILLING);
        x.tick(1);
        due("the last unit has its checks", x.unitAt(23, 3), 255);
        for (int good = 0; good < 6; good++) {
            due("the last unit's goods are taken", x.count(10 + good), 0);
        }
        x.check(23, 255);
        due("the last unit is ready", x.unitAt(23, 0), READY);
        x.home(23, 0);
        x.call(1, true);
        due("the last unit is the nearest", x.unitAt(23, 0), AT_INCIDENT);
    }

    private static void homeIs0To99999() {
        ReleaseRows x = new ReleaseRows();
        due("HOME 0", x.unit(0, 0, 0, 0), 0);
        due("HOME 99,999", x.unit(99_999, 0, 0, 0), 1);
        for (int bad : new int[] {-1, 100_000, LOW, HIGH}) {
            refused("HOME of a new unit: " + bad, RANGE, () -> x.unit(bad, 0, 0, 0));
            refused("HOME, another one: " + bad, RANGE, () -> x.home(0, bad));
        }
        x.unit(99_998, 0, 0, 0);
        x.unit(1, 0, 0, 0);
        x.call(1, true);
        due("HOME 0 is nearer than 1", x.unitAt(0, 0), AT_INCIDENT);
        x.home(3, 0);
        x.home(0, 99_999);
        x.send(2, 0);
        x.release(0, 1);
        due("HOME 99,999 is farther than 99,998", x.unitAt(0, 0), RETURNING);
        due("HOME 99,998 stays", x.unitAt(2, 0), AT_INCIDENT);
    }

    private static void cleaningIs0To10000() {
        for (int bad : new int[] {-1, 10_001, LOW, HIGH}) {
            refused("CLEANING: " + bad, RANGE, () -> new ReleaseRows().unit(0, bad, 0, 0));
        }
        ReleaseRows none = withUnit(0, 7, 0);
        runHome(none, 0, 0);
        due("CLEANING 0 is over at once", none.unitAt(0, 0), REFILLING);
        ReleaseRows one = withUnit(1, 7, 0);
        runHome(one, 0, 0);
        due("CLEANING 1 is not over at once", one.unitAt(0, 0), CLEANING);
        one.tick(1);
        due("CLEANING 1 is over after 1", one.unitAt(0, 0), REFILLING);
        ReleaseRows most = withUnit(10_000, 7, 0);
        runHome(most, 0, 0);
        tickTo(most, 9_999);
        due("CLEANING 10,000 after 9,999", most.unitAt(0, 0), CLEANING);
        most.tick(1);
        due("CLEANING 10,000 after 10,000", most.unitAt(0, 0), REFILLING);
        due("CLEANING 10,000 is over at", most.unitAt(0, 2), 10_000);
    }

    private static void refillingIs0To10000() {
        for (int bad : new int[] {-1, 10_001, LOW, HIGH}) {
            refused("REFILLING: " + bad, RANGE, () -> new ReleaseRows().unit(0, 0, bad, 0));
        }
        ReleaseRows none = withUnit(7, 0, 1);
        runHome(none, 0, 0);
        none.tick(7);
        due("REFILLING 0 is over at once", none.unitAt(0, 0), CHECKED);
        ReleaseRows one = withUnit(0, 1, 1);
        runHome(one, 0, 0);
        due("REFILLING 1 is not over at once", one.unitAt(0, 0), REFILLING);
        one.tick(1);
        due("REFILLING 1 is over after 1", one.unitAt(0, 0), CHECKED);
        ReleaseRows most = withUnit(3, 10_000, 1);
        runHome(most, 0, 0);
        tickTo(most, 10_002);
        due("REFILLING 10,000 after 9,999", most.unitAt(0, 0), REFILLING);
        most.tick(1);
        due("REFILLING 10,000 after 10,000", most.unitAt(0, 0), CHECKED);
        due("REFILLING 10,000 is over at", most.unitAt(0, 2), 10_003);
    }

    private static void checksAre0To255() {
        for (int bad : new int[] {-1, 256, LOW, HIGH}) {
            refused("CHECKS: " + bad, RANGE, () -> new ReleaseRows().unit(0, 0, 0, bad));
        }
        ReleaseRows none = withUnit(0, 0, 0);
        runHome(none, 0, 0);
        due("CHECKS none: ready at once", none.unitAt(0, 0), READY);
        ReleaseRows all = withUnit(0, 0, 255);
        runHome(all, 0, 0);
        due("CHECKS 255", all.unitAt(0, 3), 255);
        for (int bit = 7; bit > 0; bit--) {
            all.check(0, 1 << bit);
            due("CHECKS still to do", all.unitAt(0, 3), (1 << bit) - 1);
            due("CHECKS: not ready before the last", all.unitAt(0, 0), CHECKED);
        }
        all.check(0, 1);
        due("CHECKS: ready with the last", all.unitAt(0, 0), READY);
    }

    private static void eachCheckByItself() {
        for (int bit = 0; bit < 8; bit++) {
            ReleaseRows x = withUnit(0, 0, 1 << bit);
            runHome(x, 0, 0);
            x.check(0, 255 - (1 << bit));
            due("CHECKS: all others are not bit " + bit, x.unitAt(0, 3), 1 << bit);
            x.check(0, 1 << bit);
            due("CHECKS: bit " + bit, x.unitAt(0, 0), READY);
        }
    }

    private static void goodsAre0To5() {
        ReleaseRows x = withUnit(0, 0, 0);
        x.send(0, 0);
        for (int good = 0; good < 6; good++) {
            due("STOCK is 0 at first: " + good, x.count(10 + good), 0);
        }
        for (int good = 0; good < 6; good++) {
            due("GOODS: deliver " + good, x.deliver(good, 10 + good), 10 + good);
            due("GOODS: use " + good, x.use(0, good, 1 + good), 1 + good);
        }
        for (int good = 0; good < 6; good++) {
            due("GOODS: each has a stock of its own", x.count(10 + good), 10 + good);
        }
        for (int bad : new int[] {-1, 6, LOW, HIGH}) {
            refused("GOODS: deliver " + bad, UNKNOWN, () -> x.deliver(bad, 1));
            refused("GOODS: use " + bad, UNKNOWN, () -> x.use(0, bad, 1));
        }
        refused("GOODS: the stock of good -1", UNKNOWN, () -> x.count(9));
        refused("GOODS: the stock of good 6", UNKNOWN, () -> x.count(16));
    }

    // What a unit IS

    private static void aUnitIsReadyAtFirst() {
        ReleaseRows x = new ReleaseRows();
        x.tick(30);
        x.unit(1, 2, 3, 255);
        due("READY (at first), since it was made", unitShown(x, 0), Arrays.asList(READY, -1, 30, 0, 0));
    }

    private static void cleaningBeginsWhenItCameHome() {
        ReleaseRows x = withUnit(10, 10, 0);
        x.send(0, 0);
        x.tick(100);
        x.release(0, 1);
        due("RETURNING since it was released", x.unitAt(0, 2), 100);
        x.tick(100);
        due("RETURNING has no end by itself", x.unitAt(0, 0), RETURNING);
        x.back(0);
        due("CLEANING from the second it came home on", x.unitAt(0, 2), 200);
        x.tick(9);
        due("CLEANING so many seconds: one less", x.unitAt(0, 0), CLEANING);
        x.tick(1);
        due("then it refills", unitShown(x, 0), Arrays.asList(REFILLING, -1, 210, 0, 1));
    }

    private static void refillingBeginsWhenCleaningEnds() {
        ReleaseRows x = withUnit(10, 20, 1);
        runHome(x, 0, 0);
        x.tick(29);
        due("REFILLING so many seconds from then on: one less", x.unitAt(0, 0), REFILLING);
        due("REFILLING since the end of cleaning", x.unitAt(0, 2), 10);
        x.tick(1);
        due("REFILLING is over", unitShown(x, 0), Arrays.asList(CHECKED, -1, 30, 1, 1));
    }

    private static void oneShortOfOneGoodIsNotAll() {
        for (int lacking = 0; lacking < 6; lacking++) {
            ReleaseRows x = withUnit(0, 0, 0);
            x.send(0, 0);
            for (int good = 0; good < 6; good++) {
                x.use(0, good, 5);
                x.deliver(good, good == lacking ? 4 : 6);
            }
            x.release(0, 1);
            x.back(0);
            x.tick(50);
            due("the stocks have not all: one short of " + lacking, x.unitAt(0, 0), REFILLING);
            for (int good = 0; good < 6; good++) {
                due("nothing is taken in part", x.count(10 + good), good == lacking ? 4 : 6);
            }
            due("deliver answers before units go on", x.deliver(lacking, 1), 5);
            due("as soon as the stocks have all", x.unitAt(0, 0), READY);
            due("in the second of the delivery", x.unitAt(0, 2), 50);
            for (int good = 0; good < 6; good++) {
                due("this is taken from them", x.count(10 + good), good == lacking ? 0 : 1);
            }
        }
    }

    private static void emptyStocksHaveAllThatWasNotUsed() {
        ReleaseRows x = withUnit(0, 3, 1);
        runHome(x, 0, 0);
        x.tick(3);
        due("nothing used: empty stocks have all", x.unitAt(0, 0), CHECKED);
    }

    private static void stocksAreNotTakenBeforeTheTimeIsOver() {
        ReleaseRows x = withUnit(2, 3, 0);
        x.send(0, 0);
        x.use(0, 3, 8);
        x.deliver(3, 8);
        x.release(0, 1);
        due("a returning unit takes nothing", x.count(13), 8);
        x.back(0);
        x.tick(2);
        due("a cleaned unit takes nothing yet", x.count(13), 8);
        x.tick(2);
        due("a second before its time is over", x.count(13), 8);
        x.tick(1);
        due("taken when its time is over", x.count(13), 0);
    }

    private static void whatItUsedIs0AfterRefilling() {
        ReleaseRows x = withUnit(0, 0, 1);
        x.send(0, 0);
        x.use(0, 2, 1_000);
        x.deliver(2, 1_000);
        x.release(0, 1);
        due("what it used is kept on the way home", x.use(0, 5, 1), 1);
        x.deliver(5, 1);
        x.back(0);
        x.check(0, 1);
        x.send(0, 0);
        due("what it used is 0", x.use(0, 2, 3), 3);
        due("what it used of another is 0", x.use(0, 5, 3), 3);
    }

    private static void checksDoneAreNoneAfterRefilling() {
        ReleaseRows x = withUnit(0, 0, 6);
        runHome(x, 0, 0);
        x.check(0, 6);
        runHome(x, 0, 0);
        due("its checks done are none then", x.unitAt(0, 3), 6);
        x.check(0, 2);
        due("checks done are kept while it is checked", x.unitAt(0, 3), 4);
        x.tick(9);
        due("checks do not run out", x.unitAt(0, 3), 4);
        due("checked since it was refilled", x.unitAt(0, 2), 0);
        x.check(0, 4);
        due("ready since it has all", x.unitAt(0, 2), 9);
    }

    private static void allIsSoInTheSameSecond() {
        ReleaseRows x = withUnit(0, 0, 0);
        x.tick(5);
        x.send(0, 0);
        x.tick(5);
        x.release(0, 1);
        x.call(2, true);
        x.tick(5);
        x.back(0);
        due("from home to the call that waits at once", unitShown(x, 0), Arrays.asList(AT_INCIDENT, 1, 15, 0, 2));
        due("no call waits", x.count(2), 0);
    }

    private static void eachSecondOfATickCounts() {
        ReleaseRows x = withUnit(3, 4, 0);
        x.call(2, false);
        x.watch(1, 9);
        x.unit(11, 0, 0, 0);
        runHome(x, 0, 0);
        runToClose(x, 1, 1);
        due("one closed in the tick", x.tick(5_000), 1);
        due("ready since the second within the tick", x.unitAt(0, 2), 7);
        due("closed at the second within the tick", x.incidentAt(1, 5), 9);
    }

    // INCIDENTS

    private static void incidentsAreAtMost20() {
        ReleaseRows x = new ReleaseRows();
        refused("no incident: 0 is unknown", UNKNOWN, () -> x.incidentAt(0, 0));
        for (int incident = 0; incident < 20; incident++) {
            due("INCIDENTS 0, 1, ..", x.call(incident, false), incident);
            int next = incident + 1;
            refused("the next number is unknown", UNKNOWN, () -> x.incidentAt(next, 0));
        }
        refused("at most 20: a 21st", ROOM, () -> x.call(20, false));
        refused("at most 20: a 21st with a call that waits", ROOM, () -> x.call(20, true));
        refused("at most 20: number 20", UNKNOWN, () -> x.incidentAt(20, 0));
        due("20 are open", x.count(3), 20);
        due("no call waits", x.count(2), 0);
        due("an open one needs no room", x.call(19, false), 19);
    }

    private static void aClosedIncidentTakesRoomAndMayBeOpenedAgain() {
        ReleaseRows x = new ReleaseRows();
        x.unit(0, 0, 0, 0);
        for (int incident = 0; incident < 20; incident++) {
            x.call(incident, false);
        }
        runToClose(x, 0, 19);
        refused("at most 20, closed ones too", ROOM, () -> x.call(20, false));
        x.tick(600);
        due("opening again needs no room", x.call(19, false), 19);
        x.back(0);
        runToClose(x, 0, 19);
        x.tick(601);
        refused("the span is over: a 21st", ROOM, () -> x.call(19, false));
        refused("the span is over: a 21st that waits", ROOM, () -> x.call(19, true));
        due("refused, it is closed", x.incidentAt(19, 0), 0);
        due("refused, it was opened twice", x.incidentAt(19, 3), 2);
    }

    private static void theLastIncidentIsLikeOthers() {
        ReleaseRows x = new ReleaseRows();
        x.unit(0, 0, 0, 0);
        for (int incident = 0; incident < 20; incident++) {
            x.call(99 - incident, false);
        }
        x.call(80, true);
        x.inside(19, 1);
        x.watch(19, 5);
        tellRows(x, 19);
        x.release(19, 1);
        x.tick(5);
        due("the last incident", incidentShown(x, 19), Arrays.asList(1, 0, 0, 1, 0, -1, 7, 1));
        x.inside(19, 0);
        due("the last incident closes", incidentShown(x, 19), Arrays.asList(0, 0, 0, 1, 1, 5, 7, 0));
        due("the first one is as it was", incidentShown(x, 0), Arrays.asList(1, 0, 0, 1, 0, -1, 0, 0));
    }

    private static void placesAre0To99() {
        ReleaseRows x = new ReleaseRows();
        for (int bad : new int[] {-1, 100, LOW, HIGH}) {
            refused("PLACE " + bad, RANGE, () -> x.call(bad, false));
            refused("PLACE " + bad + ", waits", RANGE, () -> x.call(bad, true));
        }
        due("PLACE: refused opens none", x.count(3), 0);
        due("PLACE 99", x.call(99, false), 0);
        due("PLACE 0", x.call(0, false), 1);
        due("PLACE 99 again", x.call(99, false), 0);
    }

    private static void reportRowsAre0To7() {
        ReleaseRows x = withUnit(0, 0, 0);
        due("REPORT ROWS: none when it is opened", x.incidentAt(0, 6), 0);
        int told = 0;
        for (int row = 0; row < 8; row++) {
            x.report(0, row);
            told += 1 << row;
            due("REPORT ROWS told so far", x.incidentAt(0, 6), told);
        }
        x.report(0, 7);
        due("REPORT ROWS: told twice is told", x.incidentAt(0, 6), 255);
        for (int bad : new int[] {-1, 8, 32, LOW, HIGH}) {
            refused("REPORT ROWS: row " + bad, UNKNOWN, () -> x.report(0, bad));
        }
        due("REPORT ROWS: refused tells none", x.incidentAt(0, 6), 255);
    }

    private static void insideIs0AtFirst() {
        ReleaseRows x = withUnit(0, 0, 0);
        runToClose(x, 0, 0);
        due("INSIDE 0 at first: it closes", x.incidentAt(0, 0), 0);
    }

    // CLOSES by itself

    /** An incident that lacks nothing but that a unit was there. */
    private static void closesNotBeforeAUnitWasThere() {
        ReleaseRows x = withUnit(0, 0, 0);
        tellRows(x, 0);
        x.inside(0, 0);
        x.watch(0, 0);
        x.tick(1);
        due("no unit was there", x.incidentAt(0, 0), 1);
        due("none there to release", x.release(0, 1), 0);
        due("still no unit was there", x.incidentAt(0, 0), 1);
        x.send(0, 0);
        due("one is there", x.incidentAt(0, 0), 1);
        x.release(0, 1);
        due("a unit was there and none is", x.incidentAt(0, 0), 0);
        due("closed at", x.incidentAt(0, 5), 1);
    }

    private static void aUnitThatWasThereBeforeDoesNotCount() {
        ReleaseRows x = withUnit(0, 0, 0);
        runToClose(x, 0, 0);
        due("opened again", x.call(1, false), 0);
        tellRows(x, 0);
        x.tick(10);
        due("since it was opened no unit was there", x.incidentAt(0, 0), 1);
        x.back(0);
        x.send(0, 0);
        x.release(0, 1);
        due("since it was opened a unit was there", x.incidentAt(0, 0), 0);
        due("closed twice", x.incidentAt(0, 4), 2);
    }

    private static void closesNotWhileOneUnitIsThere() {
        ReleaseRows x = new ReleaseRows();
        for (int unit = 0; unit < 24; unit++) {
            x.unit(unit, 0, 0, 0);
        }
        x.call(1, false);
        for (int unit = 0; unit < 24; unit++) {
            x.send(unit, 0);
        }
        tellRows(x, 0);
        due("23 of 24 are released", x.release(0, 23), 23);
        due("one is there", x.incidentAt(0, 0), 1);
        due("the nearest", x.unitAt(0, 0), AT_INCIDENT);
        due("the last one is released", x.release(0, 24), 1);
        due("none is there", x.incidentAt(0, 0), 0);
    }

    private static void closesNotWhileACallWaits() {
        ReleaseRows x = new ReleaseRows();
        x.unit(0, 0, 0, 1);
        x.call(1, true);
        x.call(2, true);
        x.call(1, true);
        tellRows(x, 0);
        x.release(0, 1);
        due("none is there, one is waited for", x.incidentAt(0, 0), 1);
        x.back(0);
        x.check(0, 1);
        due("the other incident's call gets the unit", x.unitAt(0, 1), 1);
        due("one is waited for still", x.incidentAt(0, 0), 1);
        x.unit(0, 0, 0, 0);
        due("its call gets the next unit", x.unitAt(1, 1), 0);
        x.release(0, 1);
        due("none is there or waited for", x.incidentAt(0, 0), 0);
    }

    private static void aWaitingCallIsNoUnitThere() {
        ReleaseRows x = new ReleaseRows();
        x.call(1, true);
        tellRows(x, 0);
        x.tick(10);
        due("waited for, none was there", x.incidentAt(0, 0), 1);
        x.unit(0, 0, 0, 0);
        x.release(0, 1);
        due("what a call got was there", x.incidentAt(0, 0), 0);
    }

    private static void closesNotWhileSomebodyIsInside() {
        ReleaseRows x = withUnit(0, 0, 0);
        x.inside(0, 1);
        runToClose(x, 0, 0);
        due("one is inside", x.incidentAt(0, 0), 1);
        x.inside(0, 1_000);
        due("1,000 are inside", x.incidentAt(0, 0), 1);
        x.tick(3);
        x.inside(0, 0);
        due("nobody is inside", x.incidentAt(0, 0), 0);
        due("closed in that second", x.incidentAt(0, 5), 3);
    }

    private static void closesWithReportRows0To2() {
        for (int missing = 0; missing < 8; missing++) {
            ReleaseRows x = withUnit(0, 0, 0);
            x.send(0, 0);
            for (int row = 0; row < 8; row++) {
                if (row != missing) {
                    x.report(0, row);
                }
            }
            x.release(0, 1);
            due("open without row " + missing, x.incidentAt(0, 0), missing < 3 ? 1 : 0);
        }
        ReleaseRows x = withUnit(0, 0, 0);
        x.send(0, 0);
        x.release(0, 1);
        x.tick(4);
        x.report(0, 2);
        x.report(0, 1);
        due("open without row 0", x.incidentAt(0, 0), 1);
        x.report(0, 0);
        due("closed with rows 0 .. 2 alone", x.incidentAt(0, 5), 4);
    }

    private static void closesWhenItsWatchHasEnded() {
        ReleaseRows x = withUnit(0, 0, 0);
        x.tick(10);
        x.watch(0, 20);
        runToClose(x, 0, 0);
        due("a watch: a second before its end", x.tick(9), 0);
        due("a watch: open", x.incidentAt(0, 0), 1);
        due("a watch: at its end", x.tick(1), 1);
        due("a watch: closed at its end", x.incidentAt(0, 5), 20);
    }

    private static void aWatchThatEndsNowOrEndedDoesNotHold() {
        for (int until : new int[] {-1, 0, 9, 10, 11}) {
            ReleaseRows x = withUnit(0, 0, 0);
            x.tick(10);
            x.watch(0, until);
            due("watch ended and open, " + until, x.incidentAt(0, 7), until >= 0 && until <= 10 ? 1 : 0);
            runToClose(x, 0, 0);
            due("second 10, a watch up to " + until, x.incidentAt(0, 0), until <= 10 ? 0 : 1);
        }
    }

    private static void aWatchEndsAndOtherThingsHoldItOpen() {
        ReleaseRows x = withUnit(0, 0, 0);
        x.watch(0, 10);
        x.send(0, 0);
        tellRows(x, 0);
        x.tick(9);
        due("its watch has not ended", x.incidentAt(0, 7), 0);
        x.tick(1);
        due("its watch has ended and it is open all the same", x.incidentAt(0, 7), 1);
        x.tick(4_000);
        due("it still is so", x.incidentAt(0, 7), 1);
        x.release(0, 1);
        due("closed: it is not open all the same", x.incidentAt(0, 7), 0);
        due("closed when the unit left", x.incidentAt(0, 5), 4_010);
    }

    private static void severalCloseInOneSecond() {
        ReleaseRows x = new ReleaseRows();
        for (int i = 0; i < 20; i++) {
            x.unit(0, 0, 0, 0);
            x.call(i, false);
            x.watch(i, 50);
            runToClose(x, i, i);
        }
        due("none closes before", x.tick(49), 0);
        due("all 20 close in one second", x.tick(1), 20);
        due("none is open", x.count(3), 0);
    }

    // A CALL

    private static void aCallOfAnOpenIncidentChangesItNot() {
        ReleaseRows x = withUnit(0, 0, 0);
        x.report(0, 4);
        x.watch(0, 5);
        x.send(0, 0);
        x.tick(5_000);
        List<Integer> before = incidentShown(x, 0);
        due("when an incident of it is open it is that one", x.call(1, false), 0);
        due("it is as it was", incidentShown(x, 0), before);
    }

    /** Closes incident 0 at second 0, sets a span, and calls its place so many seconds later. */
    private static int calledAfter(int span, int seconds) {
        ReleaseRows x = withUnit(0, 0, 0);
        runToClose(x, 0, 0);
        if (span >= 0) {
            x.span(span);
        }
        tickTo(x, seconds);
        return x.call(1, false);
    }

    private static void spanIs0To100000() {
        due("SPAN 600 at first: the same second", calledAfter(-1, 0), 0);
        due("SPAN 600 at first: 600 ago", calledAfter(-1, 600), 0);
        due("SPAN 600 at first: 601 ago", calledAfter(-1, 601), 1);
        due("SPAN 0: the same second", calledAfter(0, 0), 0);
        due("SPAN 0: 1 ago", calledAfter(0, 1), 1);
        due("SPAN 1: 1 ago", calledAfter(1, 1), 0);
        due("SPAN 1: 2 ago", calledAfter(1, 2), 1);
        due("SPAN 100,000: 100,000 ago", calledAfter(100_000, 100_000), 0);
        due("SPAN 100,000: 100,001 ago", calledAfter(100_000, 100_001), 1);
        ReleaseRows x = new ReleaseRows();
        for (int bad : new int[] {-1, 100_001, LOW, HIGH}) {
            refused("SPAN " + bad, RANGE, () -> x.span(bad));
        }
    }

    private static void theSpanOfTheCallCounts() {
        ReleaseRows x = withUnit(0, 0, 0);
        x.span(0);
        runToClose(x, 0, 0);
        x.tick(50);
        x.span(49);
        x.span(50);
        due("the span is the one at the call", x.call(1, false), 0);
    }

    private static void theLatestOneThatClosedIsOpenedAgain() {
        ReleaseRows x = withUnit(0, 0, 0);
        runToClose(x, 0, 0);
        x.back(0);
        x.tick(700);
        due("longer ago than the span: a new one", x.call(1, false), 1);
        runToClose(x, 0, 1);
        x.back(0);
        x.span(100_000);
        due("of two within the span the latest", x.call(1, false), 1);
        due("the earlier one is closed", x.incidentAt(0, 0), 0);
        runToClose(x, 0, 1);
        x.span(10);
        x.tick(11);
        due("the latest is too long ago: a new one", x.call(1, false), 2);
    }

    private static void anotherPlaceIsAnotherIncident() {
        ReleaseRows x = withUnit(0, 0, 0);
        runToClose(x, 0, 0);
        due("another place's closed one is not opened", x.call(2, false), 1);
        due("another place's open one is not it", x.call(3, false), 2);
        due("of place 1 it is opened again", x.call(1, false), 0);
    }

    private static void openedAgainItIsBare() {
        ReleaseRows x = withUnit(0, 0, 0);
        x.inside(0, 7);
        x.watch(0, 10);
        x.report(0, 7);
        runToClose(x, 0, 0);
        x.tick(20);
        x.inside(0, 0);
        due("closed", incidentShown(x, 0), Arrays.asList(0, 0, 0, 1, 1, 20, 135, 0));
        x.tick(5);
        x.call(1, false);
        due("opened again without rows and watch", incidentShown(x, 0), Arrays.asList(1, 0, 0, 2, 1, 20, 0, 0));
        x.back(0);
        runToClose(x, 0, 0);
        due("opened again nobody was inside", incidentShown(x, 0), Arrays.asList(0, 0, 0, 2, 2, 25, 7, 0));
    }

    private static void aWatchTakenBackDoesNotHold() {
        ReleaseRows x = withUnit(0, 0, 0);
        x.watch(0, 999_999);
        x.watch(0, -1);
        runToClose(x, 0, 0);
        x.call(1, false);
        x.watch(0, 30);
        x.watch(0, -1);
        x.back(0);
        runToClose(x, 0, 0);
        due("a watch that was taken back does not hold", x.incidentAt(0, 4), 2);
    }

    // Calls that WAIT

    private static void aCallWaitsOrNot() {
        ReleaseRows x = withUnit(0, 0, 0);
        due("a call that does not wait gets no unit", x.unitAt(0, 0), READY);
        x.send(0, 0);
        x.call(1, false);
        due("a call that does not wait is not in the row", x.count(2), 0);
        x.call(1, true);
        due("a call that waits is", x.count(2), 1);
        due("it waits for its incident", x.incidentAt(0, 2), 1);
        x.unit(0, 0, 0, 0);
        due("a call that got a unit does not wait", x.incidentAt(0, 2), 0);
        due("the row is empty", x.count(2), 0);
    }

    private static void waitingCallsAreAtMost30() {
        ReleaseRows x = new ReleaseRows();
        for (int i = 1; i <= 30; i++) {
            x.call(i % 2, true);
            due("calls wait", x.count(2), i);
        }
        refused("at most 30: a 31st", ROOM, () -> x.call(0, true));
        refused("at most 30: a 31st of a new place", ROOM, () -> x.call(5, true));
        due("refused: still 30", x.count(2), 30);
        due("refused: no new incident", x.count(3), 2);
        due("one that does not wait has room", x.call(5, false), 2);
        x.unit(0, 0, 0, 0);
        due("the first one got a unit", x.count(2), 29);
        due("there is room for one", x.call(5, true), 2);
        refused("and for one alone", ROOM, () -> x.call(5, true));
    }

    private static void aFullRowKeepsAClosedIncidentClosed() {
        ReleaseRows x = withUnit(0, 0, 0);
        runToClose(x, 0, 0);
        for (int i = 0; i < 30; i++) {
            x.call(2, true);
        }
        List<Integer> before = shown(x, 1, 2);
        refused("no room to wait", ROOM, () -> x.call(1, true));
        due("it is not opened again", shown(x, 1, 2), before);
        due("without waiting it is", x.call(1, false), 0);
    }

    private static void waitingCallsAreInARow() {
        ReleaseRows x = new ReleaseRows();
        for (int i = 0; i < 20; i++) {
            x.call(19 - i, true);
        }
        for (int i = 0; i < 10; i++) {
            x.call(2 * i, true);
        }
        for (int unit = 0; unit < 24; unit++) {
            x.unit(0, 0, 0, 0);
            int place = unit < 20 ? 19 - unit : 2 * (unit - 20);
            due("the first one gets it", x.unitAt(unit, 1), 19 - place);
        }
        due("six wait still", x.count(2), 6);
    }

    /** The row is filled and emptied over and over, so that its end would come round. */
    private static void theRowComesRound() {
        ReleaseRows x = new ReleaseRows();
        x.unit(0, 0, 0, 0);
        x.call(0, true);
        for (int i = 1; i <= 30; i++) {
            x.call(i % 7, true);
        }
        for (int i = 1; i <= 70; i++) {
            x.release((i - 1) % 7, 1);
            x.back(0);
            due("the first of the row, " + i, x.unitAt(0, 1), i % 7);
            x.call((i + 30) % 7, true);
        }
        due("30 wait", x.count(2), 30);
    }

    private static void ofSeveralReadyTheNearestThenTheLowest() {
        ReleaseRows x = new ReleaseRows();
        for (int distance : new int[] {5, 4, 4, 99_999, 0, 0}) {
            x.unit(distance, 0, 0, 0);
        }
        x.call(1, false);
        int[] order = {4, 5, 1, 2, 0, 3};
        for (int i = 0; i < order.length; i++) {
            due("least home distance, of the same the lowest", x.unitAt(order[i], 0), READY);
            x.call(1, true);
            due("it is at the incident", x.unitAt(order[i], 1), 0);
            due("no other is", x.incidentAt(0, 1), i + 1);
        }
        x.call(1, true);
        due("none is ready: the call waits", x.count(2), 1);
    }

    private static void whateverMakesAUnitReadyGivesItToTheCall() {
        ReleaseRows made = new ReleaseRows();
        made.call(1, true);
        made.unit(0, 0, 0, 0);
        due("a new unit", made.unitAt(0, 1), 0);

        ReleaseRows home = withUnit(0, 0, 0);
        home.send(0, 0);
        home.call(2, true);
        home.release(0, 1);
        home.back(0);
        due("one that comes home", home.unitAt(0, 1), 1);

        ReleaseRows refilled = withUnit(0, 0, 0);
        refilled.send(0, 0);
        refilled.use(0, 0, 1);
        refilled.call(2, true);
        refilled.release(0, 1);
        refilled.back(0);
        due("one that lacks goods", refilled.unitAt(0, 1), -1);
        refilled.deliver(0, 1);
        due("one that a delivery refills", refilled.unitAt(0, 1), 1);

        ReleaseRows checked = withUnit(0, 0, 1);
        checked.send(0, 0);
        checked.call(2, true);
        checked.release(0, 1);
        checked.back(0);
        due("one that lacks a check", checked.unitAt(0, 1), -1);
        checked.check(0, 1);
        due("one that has its last check", checked.unitAt(0, 1), 1);

        ReleaseRows cleaned = withUnit(4, 4, 0);
        cleaned.send(0, 0);
        cleaned.call(2, true);
        cleaned.release(0, 1);
        cleaned.back(0);
        cleaned.tick(7);
        due("one whose time is not over", cleaned.unitAt(0, 1), -1);
        cleaned.tick(100);
        due("one whose time is over", cleaned.unitAt(0, 1), 1);
        due("in the second of it", cleaned.unitAt(0, 2), 8);
    }

    // Of one second

    private static void unitsByNumbersGoOn() {
        ReleaseRows x = new ReleaseRows();
        for (int unit = 0; unit < 3; unit++) {
            x.unit(90 - unit, 0, 5, 0);
        }
        x.call(1, false);
        for (int unit = 0; unit < 3; unit++) {
            x.send(unit, 0);
            x.use(unit, 0, 4 - unit);
        }
        x.deliver(0, 6);
        x.release(0, 3);
        x.back(2);
        x.back(1);
        x.back(0);
        x.tick(5);
        due("unit 0 takes 4 of 6", x.unitAt(0, 0), READY);
        due("unit 1 lacks one of 3", x.unitAt(1, 0), REFILLING);
        due("unit 2 takes the other 2", x.unitAt(2, 0), READY);
        due("nothing is left", x.count(10), 0);
    }

    private static void unitsGoOnBeforeCallsGetThem() {
        ReleaseRows x = new ReleaseRows();
        x.unit(50, 0, 10, 0);
        x.unit(40, 0, 10, 0);
        x.call(1, false);
        x.send(0, 0);
        x.send(1, 0);
        x.release(0, 2);
        x.back(0);
        x.back(1);
        x.call(2, true);
        x.tick(10);
        due("both are ready, then the nearer goes", x.unitAt(1, 1), 1);
        due("the other is ready", x.unitAt(0, 0), READY);
    }

    private static void callsGetUnitsBeforeIncidentsClose() {
        ReleaseRows x = new ReleaseRows();
        x.unit(0, 0, 10, 0);
        x.call(1, true);
        tellRows(x, 0);
        x.watch(0, 10);
        x.call(1, true);
        x.release(0, 1);
        x.back(0);
        due("the call gets the unit in the second in which the watch ends", x.tick(10), 0);
        due("it is there", x.unitAt(0, 1), 0);
        due("open all the same", x.incidentAt(0, 7), 1);
        x.release(0, 1);
        due("then it closes", x.incidentAt(0, 5), 10);
    }

    // What it is

    private static void anObjectIsGoodFor512Calls() {
        ReleaseRows x = withUnit(0, 0, 0);
        for (int i = 3; i <= 510; i += 4) {
            x.send(0, 0);
            x.tick(1);
            x.release(0, 1);
            x.back(0);
        }
        due("call 511", x.unitAt(0, 4), 127);
        due("call 512", x.count(0), 127);
    }

    public static void main(String[] args) {
        timeIsZeroAtFirst();
        timeGoesUpTo999999();
        timeNeverGoesBack();
        theLastSecondIsLikeOthers();
        unitsAreAtMost24();
        theLastUnitIsLikeOthers();
        homeIs0To99999();
        cleaningIs0To10000();
        refillingIs0To10000();
        checksAre0To255();
        eachCheckByItself();
        goodsAre0To5();
        aUnitIsReadyAtFirst();
        cleaningBeginsWhenItCameHome();
        refillingBeginsWhenCleaningEnds();
        oneShortOfOneGoodIsNotAll();
        emptyStocksHaveAllThatWasNotUsed();
        stocksAreNotTakenBeforeTheTimeIsOver();
        whatItUsedIs0AfterRefilling();
        checksDoneAreNoneAfterRefilling();
        allIsSoInTheSameSecond();
        eachSecondOfATickCounts();
        incidentsAreAtMost20();
        aClosedIncidentTakesRoomAndMayBeOpenedAgain();
        theLastIncidentIsLikeOthers();
        placesAre0To99();
        reportRowsAre0To7();
        insideIs0AtFirst();
        closesNotBeforeAUnitWasThere();
        aUnitThatWasThereBeforeDoesNotCount();
        closesNotWhileOneUnitIsThere();
        closesNotWhileACallWaits();
        aWaitingCallIsNoUnitThere();
        closesNotWhileSomebodyIsInside();
        closesWithReportRows0To2();
        closesWhenItsWatchHasEnded();
        aWatchThatEndsNowOrEndedDoesNotHold();
        aWatchEndsAndOtherThingsHoldItOpen();
        severalCloseInOneSecond();
        aCallOfAnOpenIncidentChangesItNot();
        spanIs0To100000();
        theSpanOfTheCallCounts();
        theLatestOneThatClosedIsOpenedAgain();
        anotherPlaceIsAnotherIncident();
        openedAgainItIsBare();
        aWatchTakenBackDoesNotHold();
        aCallWaitsOrNot();
        waitingCallsAreAtMost30();
        aFullRowKeepsAClosedIncidentClosed();
        waitingCallsAreInARow();
        theRowComesRound();
        ofSeveralReadyTheNearestThenTheLowest();
        whateverMakesAUnitReadyGivesItToTheCall();
        unitsByNumbersGoOn();
        unitsGoOnBeforeCallsGetThem();
        callsGetUnitsBeforeIncidentsClose();
        anObjectIsGoodFor512Calls();
        end();
    }
}
