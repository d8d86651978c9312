/** The boundary cases that the document's 'Terms' name, each in a case of its own. */
public final class TermsTest {
    private static final int NONE = -1;
    private static final Due DUE = new Due();

    public static void main(String[] args) {
        Cases.runAll(TermsTest.class, DUE);
    }

    private static void same(String call, long got, long want) {
        DUE.same(call, got, want);
    }

    private static FillForecast withBins(int count) {
        FillForecast x = new FillForecast();
        for (int i = 0; i < count; i++) {
            same("bin", x.bin(0, 1000), i);
        }
        return x;
    }

    private static FillForecast withRows(int... hoursAndShares) {
        FillForecast x = withBins(1);
        for (int i = 0; i < hoursAndShares.length; i += 2) {
            same("row", x.row(0, hoursAndShares[i], hoursAndShares[i + 1]), i / 2 + 1);
        }
        return x;
    }

    /** Asks that the bin has this mean on this weekday, and none on the others. */
    private static void onlyMean(FillForecast x, int weekday, int mean) {
        for (int other = 0; other < 7; other++) {
            same("mean of " + other, x.mean(0, other), other == weekday ? mean : NONE);
        }
    }

    // HOURS are 0 .. 9999

    private static void noHour(int hour) {
        FillForecast x = withBins(1);
        same("row at " + hour, x.row(0, hour, 5), NONE);
        same("emptied at " + hour, x.emptied(0, hour, 5), NONE);
        same("expected at " + hour, x.expected(0, hour), NONE);
        same("silent at " + hour, x.silent(hour, 0), NONE);
        same("over at " + hour, x.over(hour, 0), NONE);
        same("no row came", x.row(0, 50, 5), 1);
        same("no emptying came", x.emptied(0, 50, 5), 1);
    }

    private static void anHour(int hour) {
        FillForecast x = withBins(1);
        same("silent at " + hour, x.silent(hour, 0), 0);
        same("row at " + hour, x.row(0, hour, 1000), 1);
        same("expected at " + hour, x.expected(0, hour), 1000);
        same("over at " + hour, x.over(hour, 0), 0);
        same("silent no more", x.silent(hour, 0), NONE);
        same("emptied at " + hour, x.emptied(0, hour, 1234), 1);
        same("check", x.check(0, 0), 234);
    }

    static void hoursBelow0() {
        noHour(-1);
        noHour(-24);
        noHour(Integer.MIN_VALUE);
    }

    static void hoursAbove9999() {
        noHour(10000);
        noHour(Integer.MAX_VALUE);
    }

    static void theRestOfDay416IsNoHours() {
        for (int hour = 10000; hour <= 416 * 24 + 23; hour++) {
            noHour(hour);
        }
    }

    static void hoursBeginWith0() {
        anHour(0);
    }

    static void hoursEndWith9999() {
        anHour(9999);
    }

    // DAY d has hours 24 d .. 24 d + 23

    static void firstHourOfADay() {
        for (int day : new int[] {1, 2, 6, 7, 8, 13, 14, 415, 416}) {
            onlyMean(withRows(24 * day - 1, 0, 24 * day, 1), day % 7, 24);
        }
    }

    static void lastHourOfADay() {
        for (int day : new int[] {0, 1, 5, 6, 7, 13, 414, 415}) {
            onlyMean(withRows(24 * day + 22, 0, 24 * day + 23, 1), day % 7, 24);
        }
    }

    static void lastHourOfAllIsOfDay416() {
        onlyMean(withRows(9998, 0, 9999, 1), 416 % 7, 24);
    }

    // its WEEKDAY is the rest of d over 7, but 6 when it is a HOLIDAY

    /** A bin that gains 24 w + 24 on weekday w. */
    private static FillForecast withAllMeans() {
        FillForecast x = withBins(1);
        int share = 0;
        for (int weekday = 0; weekday < 7; weekday++) {
            x.row(0, 24 * weekday + 10, share);
            share += weekday + 1;
            x.row(0, 24 * weekday + 11, share);
        }
        x.fade(1, 9);
        return x;
    }

    static void weekdaysComeRoundOverAllDays() {
        FillForecast x = withAllMeans();
        for (int day = 0; day <= 416; day++) {
            same("rate on " + day, x.rate(0, day), x.mean(0, day % 7));
            if (day == 200) {
                // An object is good for 512 calls.
                x = withAllMeans();
            }
        }
    }

    static void meansOfWeekdaysDiffer() {
        FillForecast x = withAllMeans();
        same("weekday 0", x.mean(0, 0), 24);
        for (int weekday = 1; weekday < 7; weekday++) {
            // Of the two gains of the weekday the earlier one is 0: since the row before, of the day before.
            same("weekday " + weekday, x.mean(0, weekday), 24 * (weekday + 1) * 9 / 10);
        }
    }

    static void aHolidayCountsAsWeekday6() {
        for (int day = 14; day <= 20; day++) {
            FillForecast x = withAllMeans();
            DUE.yes("holiday " + day, x.holiday(day, true));
            for (int other = 13; other <= 21; other++) {
                same("rate on " + other, x.rate(0, other), x.mean(0, other == day ? 6 : other % 7));
            }
        }
    }

    static void aHolidayMovesTheGainsOfItsRows() {
        FillForecast x = withRows(47, 0, 48, 1, 71, 24, 72, 27);
        same("weekday 2 by two gains", x.mean(0, 2), 24);
        x.holiday(2, true);
        same("weekday 2", x.mean(0, 2), NONE);
        same("weekday 6", x.mean(0, 6), 24);
        same("weekday 3 stays", x.mean(0, 3), 72);
        x.holiday(2, false);
        same("weekday 2 again", x.mean(0, 2), 24);
        same("weekday 6 again", x.mean(0, 6), NONE);
    }

    static void gainsOfAHolidayStandAmongThoseOfWeekday6() {
        FillForecast x = withRows(144, 0, 145, 1, 169, 1, 170, 11);
        same("day 6 alone", x.mean(0, 6), 24);
        x.holiday(7, true);
        // By hours: 24, then 0 and 240 of the holiday, the latest having age 0.
        same("both days", x.mean(0, 6), (240 * 128 + 0 * 64 + 24 * 32) / 224);
        same("none of weekday 0", x.mean(0, 0), NONE);
    }

    // POINTS

    static void oneRowAtAnHour() {
        FillForecast x = withRows(10, 100, 20, 200);
        same("in its stead", x.row(0, 10, 300), 2);
        same("now the second is wrong", x.wrong(0, 0), 20);
        same("the new one counts", x.expected(0, 10), 300);
        same("in its stead", x.row(0, 20, 300), 2);
        same("none is wrong", x.wrong(0, 0), NONE);
    }

    static void oneEmptyingAtAnHour() {
        FillForecast x = withBins(1);
        same("emptied", x.emptied(0, 0, 10), 1);
        same("in its stead", x.emptied(0, 0, 20), 1);
        same("the new one counts", x.check(0, 0), 20);
        same("there is no other", x.check(0, 1), Long.MIN_VALUE);
    }

    static void aRowAndAnEmptyingAtOneHour() {
        FillForecast x = withBins(1);
        same("row", x.row(0, 10, 300), 1);
        same("emptied", x.emptied(0, 10, 300), 1);
        same("both stand", x.check(0, 0), 0);
        same("of one hour the later", x.expected(0, 10), 0);
    }

    static void aRowIsFirstThoughToldBehindTheEmptying() {
        FillForecast x = withBins(1);
        same("emptied", x.emptied(0, 10, 300), 1);
        same("row", x.row(0, 10, 300), 1);
        same("the row is before it", x.check(0, 0), 0);
        same("of one hour the later", x.expected(0, 10), 0);
        onlyMean(x, NONE, NONE);
    }

    static void anEmptyingHasAShareOf0() {
        FillForecast x = withRows(10, 1500);
        x.emptied(0, 11, 100000);
        same("at it", x.expected(0, 11), 0);
        same("behind it", x.expected(0, 23), 12 * 100 / 24);
        x.row(0, 12, 0);
        same("a row of 0 is not wrong", x.wrong(0, 0), NONE);
        same("and gains nothing", x.mean(0, 0), 0);
    }

    static void pointsToldBackwardsStandByHours() {
        FillForecast x = withBins(1);
        x.row(0, 30, 40);
        x.emptied(0, 26, 5);
        x.row(0, 26, 30);
        x.row(0, 25, 20);
        x.row(0, 24, 10);
        same("wrong", x.wrong(0, 0), NONE);
        same("mean", x.mean(0, 1), (240 * 128 + 240 * 64 + 240 * 32) / 224);
    }

    // WRONG

    static void anEqualShareIsNotWrong() {
        FillForecast x = withRows(10, 100, 11, 100);
        same("wrong", x.wrong(0, 0), NONE);
        same("its gain of 0 counts", x.mean(0, 0), 0);
        same("it is the latest", x.expected(0, 11), 100);
    }

    static void aShareLessByOneIsWrong() {
        FillForecast x = withRows(10, 100, 11, 99);
        same("wrong", x.wrong(0, 0), 11);
        same("it has no gain", x.mean(0, 0), NONE);
        same("it is not the latest", x.expected(0, 11), 104);
    }

    static void wrongIsByTheLatestThatIsNotWrong() {
        FillForecast x = withRows(10, 100, 11, 50, 12, 70, 13, 99, 14, 100);
        same("wrong", x.wrong(0, 0), 11);
        same("more than the wrong one before", x.wrong(0, 1), 12);
        same("more than both", x.wrong(0, 2), 13);
        same("not the last", x.wrong(0, 3), NONE);
    }

    static void aFirstRowIsNeverWrong() {
        FillForecast x = withRows(10, 0);
        same("of 0", x.wrong(0, 0), NONE);
        x.row(0, 10, 1500);
        same("of 1500", x.wrong(0, 0), NONE);
        x.row(0, 20, 1499);
        same("it is by it that others are", x.wrong(0, 0), 20);
        same("and no other", x.wrong(0, 1), NONE);
    }

    static void aFirstRowAtTheHourOfAnEmptyingIsNeverWrong() {
        FillForecast x = withBins(1);
        x.emptied(0, 10, 1);
        x.row(0, 10, 0);
        same("wrong", x.wrong(0, 0), NONE);
    }

    static void aRowThatIsFirstNoMoreIsJudged() {
        FillForecast x = withRows(10, 40);
        x.row(0, 9, 41);
        same("wrong", x.wrong(0, 0), 10);
        x.row(0, 9, 40);
        same("not wrong", x.wrong(0, 0), NONE);
    }

    static void anEmptyingIsNeverWrong() {
        FillForecast x = withRows(10, 1500);
        x.emptied(0, 10, 1);
        x.emptied(0, 11, 1);
        same("wrong", x.wrong(0, 0), NONE);
        x.row(0, 12, 0);
        same("nor is any row behind it", x.wrong(0, 0), NONE);
    }

    static void aRowAtTheHourOfAnEmptyingIsJudgedBeforeIt() {
        FillForecast x = withRows(5, 600);
        x.emptied(0, 10, 1);
        x.row(0, 10, 599);
        same("wrong", x.wrong(0, 0), 10);
        x.row(0, 11, 1);
        same("but not behind it", x.wrong(0, 1), NONE);
    }

    static void aRowPutRightSetsThoseBehindItRight() {
        FillForecast x = withRows(10, 1500, 11, 5, 12, 6, 13, 7);
        same("the last is wrong", x.wrong(0, 2), 13);
        x.row(0, 10, 5);
        same("none is wrong", x.wrong(0, 0), NONE);
        same("their gains count", x.mean(0, 0), (24 * 128 + 24 * 64) / 224);
    }

    // A GAIN

    static void aFirstRowHasNoGain() {
        onlyMean(withRows(100, 1500), NONE, NONE);
    }

    static void anEmptyingHasNoGain() {
        FillForecast x = withRows(100, 0);
        x.emptied(0, 101, 5);
        x.emptied(0, 102, 5);
        onlyMean(x, NONE, NONE);
    }

    static void aWrongRowHasNoGain() {
        onlyMean(withRows(100, 7, 101, 6), NONE, NONE);
    }

    static void aGainIsDown() {
        onlyMean(withRows(0, 300, 7, 310), 0, 240 / 7);
        onlyMean(withRows(0, 0, 100, 1), 4, 0);
        onlyMean(withRows(0, 0, 23, 23), 0, 24);
        onlyMean(withRows(0, 0, 25, 26), 1, 24);
    }

    static void theMostThatIsGained() {
        onlyMean(withRows(0, 0, 1, 1500), 0, 36000);
    }

    static void theLongestGain() {
        onlyMean(withRows(0, 0, 9999, 1500), 416 % 7, 36000 / 9999);
    }

    static void aGainOf0IsAGain() {
        onlyMean(withRows(0, 5, 1, 5), 0, 0);
    }

    static void aGainIsOfTheWeekdayOfItsOwnRow() {
        onlyMean(withRows(23, 0, 48, 25), 2, 24);
    }

    static void aGainIsSinceTheLatestThatIsNotWrong() {
        onlyMean(withRows(0, 10, 3, 9, 4, 12), 0, 2 * 24 / 4);
    }

    static void aGainSinceAnEmptying() {
        FillForecast x = withBins(1);
        x.emptied(0, 10, 5);
        x.row(0, 12, 7);
        onlyMean(x, 0, 84);
    }

    static void aGainAtTheHourOfAnEmptyingIsSinceThePointBefore() {
        FillForecast x = withRows(10, 20);
        x.emptied(0, 12, 5);
        x.row(0, 12, 24);
        onlyMean(x, 0, 48);
    }

    static void aGainBehindARowAndAnEmptyingIsSinceTheEmptying() {
        FillForecast x = withRows(0, 20);
        x.emptied(0, 0, 5);
        x.row(0, 12, 24);
        onlyMean(x, 0, 48);
    }

    // THE MEAN

    static void aMeanOfOneGain() {
        FillForecast x = withRows(0, 0, 1, 7);
        for (int a = 1; a <= 9; a++) {
            for (int b = a; b <= 9; b++) {
                x.fade(a, b);
                same("mean by " + a + " and " + b, x.mean(0, 0), 168);
            }
        }
    }

    static void aMeanIsDown() {
        FillForecast x = withRows(0, 0, 1, 1, 2, 3);
        same("by 1 and 2", x.mean(0, 0), (48 * 2 + 24) / 3);
        x.fade(2, 3);
        same("by 2 and 3", x.mean(0, 0), (48 * 3 + 24 * 2) / 5);
        x.fade(8, 9);
        same("by 8 and 9", x.mean(0, 0), (48 * 9 + 24 * 8) / 17);
    }

    static void theLatestByHoursHasAge0() {
        FillForecast x = withBins(1);
        x.row(0, 2, 11);
        x.row(0, 1, 1);
        x.row(0, 0, 0);
        same("mean", x.mean(0, 0), (240 * 2 + 24) / 3);
    }

    /** Rows at the hours 0 .. count with gains of 24, but for the first, of 2400. */
    private static FillForecast withGains(int count) {
        FillForecast x = withBins(1);
        x.fade(1, 1);
        x.row(0, 0, 0);
        for (int i = 1; i <= count; i++) {
            x.row(0, i, 99 + i);
        }
        return x;
    }

    static void eightGainsCount() {
        same("mean of 7", withGains(7).mean(0, 0), (2400 + 6 * 24) / 7);
        same("mean of 8", withGains(8).mean(0, 0), (2400 + 7 * 24) / 8);
    }

    static void aNinthGainDoesNotCount() {
        same("mean of 9", withGains(9).mean(0, 0), 24);
        same("mean of 23", withGains(23).mean(0, 0), 24);
    }

    static void gainsOfOtherWeekdaysAreNotAmongTheEight() {
        FillForecast x = withGains(8);
        for (int i = 0; i < 8; i++) {
            x.row(0, 30 + i, 200);
        }
        same("weekday 0", x.mean(0, 0), (2400 + 7 * 24) / 8);
        same("weekday 1", x.mean(0, 1), (93 * 24 / 22) / 8);
    }

    static void theLargestSumIsExact() {
        FillForecast x = withRows(0, 0);
        for (int hour = 1; hour <= 8; hour++) {
            x.row(0, hour, 1500);
            x.emptied(0, hour, 0);
        }
        for (int b = 1; b <= 9; b++) {
            x.fade(b, 9);
            same("mean", x.mean(0, 0), 36000);
        }
    }

    // THE RATE

    static void aRateOfItsOwn() {
        FillForecast x = withBins(2);
        x.row(0, 0, 0);
        x.row(0, 1, 1);
        x.row(1, 0, 0);
        x.row(1, 1, 100);
        same("its own", x.rate(0, 0), 24);
        same("its own", x.rate(1, 0), 2400);
    }

    static void aMeanOf0IsARate() {
        FillForecast x = withBins(2);
        x.row(0, 0, 5);
        x.row(0, 1, 5);
        same("its own", x.rate(0, 0), 0);
        same("the street's", x.rate(1, 0), 0);
    }

    static void theStreetsRateIsDown() {
        FillForecast x = withBins(4);
        int[] means = {5, 7, 8};
        for (int bin = 0; bin < 3; bin++) {
            x.row(bin, 24, 0);
            x.row(bin, 47, means[bin]);
        }
        same("three means", x.rate(3, 1), (5 * 24 / 23 + 7 * 24 / 23 + 8 * 24 / 23) / 3);
        x.row(2, 47, 9);
        same("three means", x.rate(3, 1), (5 + 7 + 9) / 3);
        x.row(2, 47, 11);
        same("three means", x.rate(3, 1), (5 + 7 + 11) / 3);
    }

    static void theStreetsRateIsOfThoseThatHaveAMean() {
        FillForecast x = withBins(8);
        x.row(7, 24, 0);
        x.row(7, 25, 3);
        for (int bin = 0; bin < 8; bin++) {
            same("rate of " + bin, x.rate(bin, 1), 72);
            same("another weekday", x.rate(bin, 2), 100);
        }
    }

    static void theStreetsRateIsOfItsOwnBinsAlone() {
        FillForecast x = new FillForecast();
        for (int bin = 0; bin < 8; bin++) {
            x.bin(bin % 4, 10);
        }
        for (int street = 0; street < 4; street++) {
            same("none yet", x.rate(4 + street, 0), 100);
            x.row(street, 0, 0);
            x.row(street, 1, street + 1);
            same("as the other of its street", x.rate(4 + street, 0), 24 * (street + 1));
        }
    }

    static void theStreetsRateOfSevenOthers() {
        FillForecast x = withBins(8);
        for (int bin = 1; bin < 8; bin++) {
            x.row(bin, 0, 0);
            x.row(bin, 1, bin);
        }
        same("rate of 0", x.rate(0, 0), 24 * 28 / 7);
    }

    static void withoutAnyTheRateIs100() {
        FillForecast x = withBins(8);
        for (int day : new int[] {0, 6, 7, 416}) {
            same("rate on " + day, x.rate(7, day), 100);
        }
    }

    // WHAT IS EXPECTED

    static void withoutAPoint0AtHour0() {
        FillForecast x = withBins(1);
        same("at 0", x.expected(0, 0), 0);
        same("at 1", x.expected(0, 1), 100 / 24);
        same("at 24", x.expected(0, 24), 100);
        same("at 9999", x.expected(0, 9999), 9999 * 100 / 24);
    }

    static void beforeTheFirstPoint0AtHour0() {
        FillForecast x = withRows(50, 7);
        same("at 49", x.expected(0, 49), 49 * 100 / 24);
        same("at 50", x.expected(0, 50), 7);
        x.emptied(0, 48, 1);
        same("at 47", x.expected(0, 47), 47 * 100 / 24);
        same("at 48", x.expected(0, 48), 0);
        same("at 49, by the gain of the row at 50", x.expected(0, 49), 84 / 24);
    }

    static void aPointAtTheHourCountsAlone() {
        FillForecast x = withRows(10, 0, 9999, 1500);
        same("at 10", x.expected(0, 10), 0);
        same("at 9999", x.expected(0, 9999), 1500);
    }

    static void aWrongRowIsNotTheLatest() {
        FillForecast x = withRows(10, 200, 20, 100);
        same("at it", x.expected(0, 20), 200 + 10 * 100 / 24);
        same("behind it", x.expected(0, 34), 300);
    }

    static void ofPointsOfOneHourTheLater() {
        FillForecast x = withRows(10, 200);
        x.emptied(0, 10, 1);
        same("at it", x.expected(0, 10), 0);
        same("behind it", x.expected(0, 34), 100);
    }

    static void theHourOfThePointCountsAndTheHourAskedNot() {
        FillForecast x = withRows(23, 0, 24, 10);
        // Weekday 1 has a rate of 240, the others of 100.
        same("at 23", x.expected(0, 23), 0);
        same("at 24", x.expected(0, 24), 10);
        same("at 47", x.expected(0, 47), 10 + 23 * 240 / 24);
        same("at 48, with the last hour of day 1", x.expected(0, 48), 10 + 24 * 240 / 24);
        same("at 49, with the first of day 2", x.expected(0, 49), 10 + (24 * 240 + 100) / 24);
        x.emptied(0, 47, 1);
        same("since the last hour of day 1", x.expected(0, 48), 240 / 24);
        x.emptied(0, 48, 1);
        same("since the first hour of day 2", x.expected(0, 49), 100 / 24);
    }

    static void allIsDownAtOnce() {
        FillForecast x = withRows(0, 7);
        for (int hour = 0; hour <= 48; hour++) {
            same("at " + hour, x.expected(0, hour), (24 * 7 + 100 * hour) / 24);
        }
    }

    static void holidaysOnTheWayHaveTheRateOfWeekday6() {
        FillForecast x = withRows(144, 0, 145, 10);
        same("at day 9", x.expected(0, 24 * 9), 10 + (23 * 240 + 48 * 100) / 24);
        x.holiday(8, true);
        same("at day 9", x.expected(0, 24 * 9), 10 + (23 * 240 + 24 * 100 + 24 * 240) / 24);
        x.holiday(9, true);
        same("day 9 itself is behind it", x.expected(0, 24 * 9), 10 + (23 * 240 + 24 * 100 + 24 * 240) / 24);
        x.holiday(5, true);
        same("day 5 is before it", x.expected(0, 24 * 9), 10 + (23 * 240 + 24 * 100 + 24 * 240) / 24);
    }

    static void aWeekComesRound() {
        FillForecast x = withRows(144, 0, 145, 10);
        same("a week on", x.expected(0, 145 + 168), 10 + (24 * 240 + 144 * 100) / 24);
        same("two weeks on", x.expected(0, 145 + 336), 10 + 2 * (24 * 240 + 144 * 100) / 24);
    }

    static void theMostThatIsExpected() {
        FillForecast x = withRows(0, 0, 1, 1500);
        for (int day = 0; day <= 416; day++) {
            x.holiday(day, true);
        }
        same("at 9999", x.expected(0, 9999), 1500L + 9998L * 1500);
    }
}
