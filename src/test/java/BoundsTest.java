/** The boundary cases that the promises name, each in a case of its own; RefusedTest has more of refused calls. */
public final class BoundsTest {
    private static final int NONE = -1;
    private static final int LEAST = Integer.MIN_VALUE;
    private static final int MOST = Integer.MAX_VALUE;
    private static final Due DUE = new Due();

    public static void main(String[] args) {
        Cases.runAll(BoundsTest.class, DUE);
    }

    private static void same(String call, long got, long want) {
        DUE.same(call, got, want);
    }

    private static FillForecast withBins(int count) {
        FillForecast x = new FillForecast();
        for (int i = 0; i < count; i++) {
            same("bin", x.bin(0, 1000), i);
        }
        return x;
    }

    private static FillForecast withRows(int... hoursAndShares) {
        FillForecast x = withBins(1);
        for (int i = 0; i < hoursAndShares.length; i += 2) {
            same("row", x.row(0, hoursAndShares[i], hoursAndShares[i + 1]), i / 2 + 1);
        }
        return x;
    }

    // 1: A new object

    static void p01NoBins() {
        FillForecast x = new FillForecast();
        for (int bin = 0; bin <= 8; bin++) {
            same("row", x.row(bin, 0, 0), NONE);
            same("emptied", x.emptied(bin, 0, 0), NONE);
            same("mean", x.mean(bin, 0), NONE);
            same("rate", x.rate(bin, 0), NONE);
            same("expected", x.expected(bin, 0), NONE);
            same("wrong", x.wrong(bin, 0), NONE);
            same("silent", x.silent(0, bin), NONE);
            same("over", x.over(9999, bin), NONE);
            same("costOf", x.costOf(bin, 0), NONE);
            same("day", x.day(bin, 0, 0), NONE);
            same("check", x.check(bin, 0), Long.MIN_VALUE);
        }
        same("the first bin", x.bin(0, 1), 0);
    }

    static void p01NoHolidays() {
        FillForecast x = withRows(143, 0, 144, 1);
        for (int day = 0; day <= 416; day++) {
            same("rate on " + day, x.rate(0, day), day % 7 == 6 ? 24 : 100);
        }
    }

    static void p01AFadeOf1And2() {
        FillForecast x = withRows(0, 0, 1, 1, 2, 1);
        same("mean", x.mean(0, 0), (0 * 2 + 24) / 3);
        for (int age = 0; age <= 7; age++) {
            same("weight of " + age, x.weight(age), 128 >> age);
        }
    }

    static void p01CostsOf1And1() {
        FillForecast x = withRows(0, 999, 240, 1001);
        same("one too early", x.costOf(0, 0), 1);
        same("one too late", x.costOf(0, 10), 1);
    }

    static void p01SilentBehind72Hours() {
        FillForecast x = withRows(0, 5);
        same("72 hours behind it", x.silent(72, 0), NONE);
        same("73 hours behind it", x.silent(73, 0), 0);
    }

    static void p01ObjectsAreApart() {
        FillForecast x = withRows(0, 5, 1, 6);
        FillForecast y = new FillForecast();
        x.fade(1, 1);
        x.quiet(0);
        x.cost(0, 0);
        x.holiday(1, true);
        same("no bin", y.rate(0, 0), NONE);
        same("weight", y.weight(0), 128);
        same("bin", y.bin(0, 1), 0);
        same("rate", y.rate(0, 0), 100);
        same("cost", y.costOf(0, 0), 1000);
        same("row", y.row(0, 143, 1), 1);
        same("row", y.row(0, 144, 2), 2);
        same("rate", y.rate(0, 1), 100);
        same("silent", y.silent(216, 0), NONE);
    }

    // 2: bin

    static void p02Streets0To3() {
        FillForecast x = new FillForecast();
        for (int street : new int[] {-1, 4, 5, LEAST, MOST}) {
            same("street " + street, x.bin(street, 1), NONE);
        }
        for (int street = 0; street <= 3; street++) {
            same("street " + street, x.bin(street, 1), street);
        }
    }

    static void p02RoomOf1To10000() {
        FillForecast x = new FillForecast();
        for (int room : new int[] {0, -1, 10001, LEAST, MOST}) {
            same("room " + room, x.bin(0, room), NONE);
        }
        same("least", x.bin(0, 1), 0);
        same("most", x.bin(0, 10000), 1);
        for (int bin = 0; bin < 2; bin++) {
            x.row(bin, 0, 1000);
            x.emptied(bin, 0, 0);
        }
        same("least", x.check(0, 0), -1);
        same("most", x.check(1, 0), -10000);
    }

    static void p02NoneWhenThereAre8() {
        FillForecast x = withBins(7);
        same("the eighth", x.bin(3, 5), 7);
        same("a ninth", x.bin(3, 5), NONE);
        same("a ninth", x.bin(0, 1), NONE);
        same("the eighth is there", x.row(7, 0, 0), 1);
        same("the ninth is not", x.row(8, 0, 0), NONE);
        same("the first stays", x.row(0, 0, 0), 1);
    }

    static void p02ARefusedBinTakesNoNumber() {
        FillForecast x = new FillForecast();
        same("refused", x.bin(0, 0), NONE);
        same("first", x.bin(0, 1), 0);
        same("refused", x.bin(4, 1), NONE);
        same("second", x.bin(0, 1), 1);
    }

    // 3: row

    static void p03Shares0To1500() {
        FillForecast x = withBins(1);
        for (int share : new int[] {-1, 1501, LEAST, MOST}) {
            same("share " + share, x.row(0, 5, share), NONE);
        }
        same("none came", x.silent(5, 0), 0);
        same("least", x.row(0, 5, 0), 1);
        same("least", x.expected(0, 5), 0);
        same("most", x.row(0, 5, 1500), 1);
        same("most", x.expected(0, 5), 1500);
        for (int share : new int[] {-1, 1501, LEAST, MOST}) {
            same("share " + share, x.row(0, 5, share), NONE);
        }
        same("it stays", x.expected(0, 5), 1500);
    }

    static void p03NoSuchBin() {
        FillForecast x = withBins(2);
        for (int bin : new int[] {-1, 2, 7, 8, LEAST, MOST}) {
            same("bin " + bin, x.row(bin, 0, 0), NONE);
        }
        same("the last one is", x.row(1, 0, 0), 1);
    }

    /** Rows at the hours 0, 10, .. 230: twenty-four. */
    private static FillForecast withFullRows() {
        FillForecast x = withBins(2);
        for (int i = 0; i < 24; i++) {
            same("row", x.row(0, 10 * i, 10 * i), i + 1);
        }
        return x;
    }

    static void p03With24OthersNone() {
        FillForecast x = withFullRows();
        for (int hour : new int[] {5, 225, 231, 9999}) {
            same("row at " + hour, x.row(0, hour, 1500), NONE);
        }
        same("at 225 as before", x.expected(0, 225), 220 + 5);
        same("at 231 as before", x.expected(0, 231), 230 + 1);
    }

    static void p03With24AndOneOfThatHourInItsStead() {
        FillForecast x = withFullRows();
        same("the first", x.row(0, 0, 5), 24);
        same("it counts", x.expected(0, 0), 5);
        same("one between", x.row(0, 100, 101), 24);
        same("it counts", x.expected(0, 100), 101);
        same("the last", x.row(0, 230, 1500), 24);
        same("it counts", x.expected(0, 230), 1500);
    }

    static void p03EmptyingsAreNotAmongThe24() {
        FillForecast x = withBins(1);
        for (int i = 0; i < 8; i++) {
            same("emptied", x.emptied(0, 100 * i, 0), i + 1);
        }
        for (int i = 0; i < 24; i++) {
            same("row", x.row(0, 100 + i, i), i + 1);
        }
        same("one more", x.row(0, 99, 0), NONE);
    }

    static void p03WrongRowsAreAmongThe24() {
        FillForecast x = withBins(1);
        for (int i = 0; i < 24; i++) {
            same("row", x.row(0, i, 1000 - i), i + 1);
        }
        same("the last is wrong", x.wrong(0, 22), 23);
        same("one more", x.row(0, 24, 1500), NONE);
    }

    static void p03OtherBinsHaveTheirOwn24() {
        FillForecast x = withFullRows();
        for (int i = 0; i < 24; i++) {
            same("row", x.row(1, 300 - i, 0), i + 1);
        }
        same("one more", x.row(1, 0, 0), NONE);
    }

    // 4: emptied

    static void p04Kilograms0To100000() {
        FillForecast x = withBins(1);
        for (int kilograms : new int[] {-1, 100001, LEAST, MOST}) {
            same("kilograms " + kilograms, x.emptied(0, 0, kilograms), NONE);
        }
        same("none came", x.check(0, 0), Long.MIN_VALUE);
        same("least", x.emptied(0, 0, 0), 1);
        same("least", x.check(0, 0), 0);
        same("most", x.emptied(0, 0, 100000), 1);
        same("most", x.check(0, 0), 100000);
        for (int kilograms : new int[] {-1, 100001, LEAST, MOST}) {
            same("kilograms " + kilograms, x.emptied(0, 0, kilograms), NONE);
        }
        same("it stays", x.check(0, 0), 100000);
    }

    static void p04NoSuchBin() {
        FillForecast x = withBins(2);
        for (int bin : new int[] {-1, 2, 7, 8, LEAST, MOST}) {
            same("bin " + bin, x.emptied(bin, 0, 0), NONE);
        }
        same("the last one is", x.emptied(1, 0, 0), 1);
    }

    /** Emptyings at the hours 0, 24, .. 168, of 1000, 1001, .. kilograms: eight. */
    private static FillForecast withFullEmptyings() {
        FillForecast x = withBins(2);
        for (int i = 0; i < 8; i++) {
            same("emptied", x.emptied(0, 24 * i, 1000 + i), i + 1);
        }
        return x;
    }

    static void p04With8OthersNone() {
        FillForecast x = withFullEmptyings();
        for (int hour : new int[] {1, 100, 169, 9999}) {
            same("emptied at " + hour, x.emptied(0, hour, 1), NONE);
        }
        same("the first stays", x.check(0, 0), 1000);
        for (int k = 1; k < 8; k++) {
            same("check of " + k, x.check(0, k), 900 + k);
        }
        same("no ninth", x.check(0, 8), Long.MIN_VALUE);
        same("at 9999 as before", x.expected(0, 9999), (9999 - 168) * 100 / 24);
    }

    static void p04With8AndOneOfThatHourInItsStead() {
        FillForecast x = withFullEmptyings();
        for (int k = 7; k >= 1; k--) {
            same("in its stead", x.emptied(0, 24 * k, 100), 8);
            same("check of " + k, x.check(0, k), 0);
        }
        same("in its stead", x.emptied(0, 0, 100), 8);
        same("check of 0", x.check(0, 0), 100);
    }

    static void p04RowsAreNotAmongThe8() {
        FillForecast x = withFullRows();
        for (int i = 0; i < 8; i++) {
            same("emptied", x.emptied(0, 30 * i + 5, 0), i + 1);
        }
        same("one more", x.emptied(0, 0, 0), NONE);
    }

    static void p04OtherBinsHaveTheirOwn8() {
        FillForecast x = withFullEmptyings();
        for (int i = 0; i < 8; i++) {
            same("emptied", x.emptied(1, 300 - i, 0), i + 1);
        }
        same("one more", x.emptied(1, 0, 0), NONE);
    }

    // 5: fade

    static void p05FadesOf1To9() {
        FillForecast x = new FillForecast();
        for (int a = -1; a <= 11; a++) {
            for (int b = -1; b <= 11; b++) {
                boolean such = a >= 1 && b <= 9 && a <= b;
                same("fade " + a + " " + b, x.fade(a, b) ? 1 : 0, such ? 1 : 0);
            }
        }
        same("the last that was such", x.weight(0), 4782969);
        same("the last that was such", x.weight(7), 4782969);
    }

    static void p05FarOff() {
        FillForecast x = new FillForecast();
        for (int far : new int[] {LEAST, MOST}) {
            DUE.no("A", x.fade(far, 9));
            DUE.no("B", x.fade(1, far));
            DUE.no("both", x.fade(far, far));
        }
        same("as at first", x.weight(0), 128);
    }

    static void p05AAsMuchAsB() {
        FillForecast x = new FillForecast();
        for (int a = 1; a <= 9; a++) {
            DUE.yes("fade", x.fade(a, a));
            same("all ages weigh the same", x.weight(7), x.weight(0));
        }
    }

    static void p05AMoreThanB() {
        FillForecast x = new FillForecast();
        for (int b = 1; b <= 8; b++) {
            DUE.no("fade", x.fade(b + 1, b));
            same("as at first", x.weight(0), 128);
            same("as at first", x.weight(7), 1);
        }
    }

    static void p05ItCountsForGainsToldBefore() {
        FillForecast x = withRows(0, 0, 1, 10, 2, 11);
        same("by 1 and 2", x.mean(0, 0), (24 * 2 + 240) / 3);
        DUE.yes("fade", x.fade(1, 9));
        same("by 1 and 9", x.mean(0, 0), (24 * 9 + 240) / 10);
    }

    // 6: holiday

    static void p06Days0To416() {
        FillForecast x = withRows(143, 0, 144, 1);
        for (int day : new int[] {-1, 417, LEAST, MOST}) {
            DUE.no("on " + day, x.holiday(day, true));
        }
        same("no holiday", x.rate(0, 0), 100);
        same("no holiday", x.rate(0, 416), 100);
        DUE.yes("first", x.holiday(0, true));
        DUE.yes("last", x.holiday(416, true));
        for (int day : new int[] {-1, 417, LEAST, MOST}) {
            DUE.no("off " + day, x.holiday(day, false));
        }
        same("first", x.rate(0, 0), 24);
        same("second", x.rate(0, 1), 100);
        same("last but one", x.rate(0, 415), 100);
        same("last", x.rate(0, 416), 24);
    }

    static void p06OnAndOffAgain() {
        FillForecast x = withRows(143, 0, 144, 1);
        DUE.yes("off, though it was not on", x.holiday(10, false));
        same("none", x.rate(0, 10), 100);
        DUE.yes("on", x.holiday(10, true));
        DUE.yes("on again", x.holiday(10, true));
        same("one", x.rate(0, 10), 24);
        DUE.yes("off", x.holiday(10, false));
        same("none", x.rate(0, 10), 100);
    }

    static void p06ADayOfWeekday6StaysOne() {
        FillForecast x = withRows(143, 0, 144, 1);
        DUE.yes("on", x.holiday(6, true));
        same("mean", x.mean(0, 6), 24);
        same("rate", x.rate(0, 6), 24);
        DUE.yes("off", x.holiday(6, false));
        same("mean", x.mean(0, 6), 24);
    }

    static void p06AllDays() {
        FillForecast x = withRows(143, 0, 144, 1, 500, 1500);
        for (int day = 0; day <= 416; day++) {
            DUE.yes("on " + day, x.holiday(day, true));
        }
        for (int weekday = 0; weekday < 6; weekday++) {
            same("mean of " + weekday, x.mean(0, weekday), NONE);
        }
        same("mean of 6", x.mean(0, 6), (1499 * 24 / 356 * 2 + 24) / 3);
    }

    // 7: mean

    static void p07Weekdays0To6() {
        FillForecast x = withBins(1);
        for (int weekday = 0; weekday <= 7; weekday++) {
            x.row(0, 24 * weekday, weekday);
        }
        for (int weekday = 0; weekday <= 6; weekday++) {
            same("weekday " + weekday, x.mean(0, weekday), 1);
        }
        for (int weekday : new int[] {-1, 7, 8, LEAST, MOST}) {
            same("weekday " + weekday, x.mean(0, weekday), NONE);
        }
    }

    static void p07NoSuchBin() {
        FillForecast x = withRows(0, 0, 1, 1);
        for (int bin : new int[] {-1, 1, 7, 8, LEAST, MOST}) {
            same("bin " + bin, x.mean(bin, 0), NONE);
        }
    }

    static void p07NoneWithoutAGain() {
        FillForecast x = withBins(2);
        same("no points", x.mean(0, 0), NONE);
        x.row(1, 0, 0);
        x.row(1, 1, 1);
        same("not by its street", x.mean(0, 0), NONE);
        x.row(0, 1, 1);
        same("one point", x.mean(0, 0), NONE);
        x.row(0, 0, 0);
        same("two points", x.mean(0, 0), 24);
        x.row(0, 0, 2);
        same("the second is wrong", x.mean(0, 0), NONE);
    }

    // 8: rate

    static void p08Days0To416() {
        FillForecast x = withRows(0, 0, 1, 1, 72, 1, 73, 6);
        same("day 0", x.rate(0, 0), 24);
        same("day 416, weekday 3", x.rate(0, 416), (120 * 2 + 0) / 3);
        for (int day : new int[] {-1, 417, 420, LEAST, MOST}) {
            same("day " + day, x.rate(0, day), NONE);
        }
    }

    static void p08NoSuchBin() {
        FillForecast x = withBins(2);
        for (int bin : new int[] {-1, 2, 7, 8, LEAST, MOST}) {
            same("bin " + bin, x.rate(bin, 0), NONE);
        }
        same("bin 1", x.rate(1, 0), 100);
    }

    // 9: weight

    static void p09Ages0To7() {
        FillForecast x = new FillForecast();
        for (int age : new int[] {-1, 8, LEAST, MOST}) {
            same("age " + age, x.weight(age), NONE);
        }
        same("age 0", x.weight(0), 128);
        same("age 7", x.weight(7), 1);
    }

    static void p09TheLeastAndTheMost() {
        FillForecast x = new FillForecast();
        x.fade(1, 1);
        same("age 0", x.weight(0), 1);
        same("age 7", x.weight(7), 1);
        x.fade(1, 9);
        same("age 0", x.weight(0), 4782969);
        same("age 6", x.weight(6), 9);
        same("age 7", x.weight(7), 1);
        x.fade(8, 9);
        same("age 0", x.weight(0), 4782969);
        same("age 1", x.weight(1), 8 * 531441);
        same("age 7", x.weight(7), 2097152);
    }

    // 10: expected

    static void p10NoSuchBinOrHour() {
        FillForecast x = withBins(1);
        for (int wrong : new int[] {-1, 10000, LEAST, MOST}) {
            same("bin " + wrong, x.expected(wrong, 0), NONE);
            same("hour " + wrong, x.expected(0, wrong), NONE);
        }
        same("bin 1", x.expected(1, 0), NONE);
        same("hour 0", x.expected(0, 0), 0);
        same("hour 9999", x.expected(0, 9999), 41662);
    }

    static void p10ByItsStreet() {
        FillForecast x = withBins(2);
        x.row(1, 24, 0);
        x.row(1, 25, 10);
        same("over day 0", x.expected(0, 24), 100);
        same("over day 1", x.expected(0, 48), 340);
        same("over day 2", x.expected(0, 72), 440);
    }

    // 11: wrong

    static void p11KFrom0On() {
        FillForecast x = withRows(10, 100, 11, 1, 12, 100, 13, 2, 14, 3);
        same("0", x.wrong(0, 0), 11);
        same("1", x.wrong(0, 1), 13);
        same("2", x.wrong(0, 2), 14);
        for (int k : new int[] {-1, 3, LEAST, MOST}) {
            same("k " + k, x.wrong(0, k), NONE);
        }
    }

    static void p11NoneWithoutPoints() {
        FillForecast x = withBins(1);
        same("no points", x.wrong(0, 0), NONE);
        x.emptied(0, 5, 5);
        same("an emptying", x.wrong(0, 0), NONE);
        for (int bin : new int[] {-1, 1, 8, LEAST, MOST}) {
            same("bin " + bin, x.wrong(bin, 0), NONE);
        }
    }

    static void p11AtTheFirstAndTheLastHour() {
        FillForecast x = withRows(0, 1500, 9999, 1499);
        same("the last hour", x.wrong(0, 0), 9999);
        same("never the first", x.wrong(0, 1), NONE);
        x.row(0, 1, 0);
        same("the second", x.wrong(0, 0), 1);
    }

    static void p11TwentyThreeOf24() {
        FillForecast x = withBins(1);
        for (int i = 0; i < 24; i++) {
            x.row(0, 100 - i, i);
        }
        for (int k = 0; k < 23; k++) {
            same("k " + k, x.wrong(0, k), 78 + k);
        }
        same("k 23", x.wrong(0, 23), NONE);
    }

    // 12: quiet

    static void p12Hours0To1000() {
        FillForecast x = withRows(100, 5);
        for (int hours : new int[] {-1, 1001, LEAST, MOST}) {
            DUE.no("quiet " + hours, x.quiet(hours));
        }
        same("72 as before", x.silent(172, 0), NONE);
        same("72 as before", x.silent(173, 0), 0);
        DUE.yes("least", x.quiet(0));
        same("at the row", x.silent(100, 0), NONE);
        same("an hour behind it", x.silent(101, 0), 0);
        DUE.yes("most", x.quiet(1000));
        same("1000 hours behind it", x.silent(1100, 0), NONE);
        same("1001 hours behind it", x.silent(1101, 0), 0);
    }

    // 13: silent

    static void p13AtTheMostSoManyHoursBefore() {
        FillForecast x = withRows(50, 5);
        for (int hours = 0; hours <= 30; hours++) {
            DUE.yes("quiet", x.quiet(hours));
            same("at the row", x.silent(50, 0), NONE);
            same("so many behind it", x.silent(50 + hours, 0), NONE);
            same("one more behind it", x.silent(51 + hours, 0), 0);
        }
    }

    static void p13ALaterRowDoesNotCount() {
        FillForecast x = withRows(50, 5);
        same("an hour before it", x.silent(49, 0), 0);
        same("at the first hour", x.silent(0, 0), 0);
    }

    static void p13FewerHoursThanSilenceBeforeIt() {
        FillForecast x = withRows(0, 5);
        x.quiet(1000);
        same("at 0", x.silent(0, 0), NONE);
        same("at 1", x.silent(1, 0), NONE);
        same("at 1000", x.silent(1000, 0), NONE);
        same("at 1001", x.silent(1001, 0), 0);
    }

    static void p13AWrongRowCounts() {
        FillForecast x = withRows(0, 500, 100, 5);
        same("it is wrong", x.wrong(0, 0), 100);
        same("not silent", x.silent(172, 0), NONE);
        same("silent", x.silent(173, 0), 0);
    }

    static void p13AnEmptyingIsNoRow() {
        FillForecast x = withBins(1);
        x.emptied(0, 100, 5);
        same("at it", x.silent(100, 0), 0);
        same("behind it", x.silent(101, 0), 0);
        x.row(0, 100, 5);
        same("at both", x.silent(100, 0), NONE);
    }

    static void p13ARowAmongOthers() {
        FillForecast x = withRows(0, 1, 500, 2, 900, 3);
        same("by the first", x.silent(72, 0), NONE);
        same("by none", x.silent(73, 0), 0);
        same("by the second", x.silent(572, 0), NONE);
        same("by none", x.silent(573, 0), 0);
        same("by the last", x.silent(972, 0), NONE);
        same("by none", x.silent(973, 0), 0);
    }

    static void p13KFrom0OnByNumbers() {
        FillForecast x = withBins(8);
        for (int bin = 0; bin < 8; bin += 2) {
            x.row(bin, 100, 5);
        }
        for (int k = 0; k < 4; k++) {
            same("every other, k " + k, x.silent(100, k), 2 * k + 1);
        }
        for (int k = 0; k < 8; k++) {
            same("all, k " + k, x.silent(99, k), k);
        }
        same("no more", x.silent(100, 4), NONE);
        for (int k : new int[] {-1, 8, LEAST, MOST}) {
            same("k " + k, x.silent(99, k), NONE);
        }
    }

    static void p13NoBins() {
        same("at 0", new FillForecast().silent(0, 0), NONE);
    }

    // 14: over

    static void p14From1000On() {
        FillForecast x = withRows(10, 999);
        same("999", x.over(10, 0), NONE);
        x.row(0, 10, 1000);
        same("1000", x.over(10, 0), 0);
        x.row(0, 10, 1001);
        same("1001", x.over(10, 0), 0);
    }

    static void p14JustBelow1000IsDown() {
        FillForecast x = withRows(0, 983);
        // At a rate of 100 four hours more make 999 and two thirds.
        same("4 hours on", x.expected(0, 4), 999);
        same("4 hours on", x.over(4, 0), NONE);
        same("5 hours on", x.over(5, 0), 0);
    }

    static void p14AnEmptyingAtTheHour() {
        FillForecast x = withRows(10, 1500);
        same("over", x.over(10, 0), 0);
        x.emptied(0, 10, 1);
        same("not over", x.over(10, 0), NONE);
    }

    static void p14KFrom0OnByNumbers() {
        FillForecast x = withBins(8);
        for (int bin = 0; bin < 8; bin += 2) {
            x.emptied(bin, 9999, 5);
        }
        for (int k = 0; k < 4; k++) {
            same("every other, k " + k, x.over(9999, k), 2 * k + 1);
        }
        for (int k = 0; k < 8; k++) {
            same("all, k " + k, x.over(9998, k), k);
        }
        same("no more", x.over(9999, 4), NONE);
        for (int k : new int[] {-1, 8, LEAST, MOST}) {
            same("k " + k, x.over(9998, k), NONE);
        }
    }

    static void p14EachBinByItsOwnRates() {
        FillForecast x = new FillForecast();
        x.bin(0, 10);
        x.bin(1, 10);
        x.row(0, 0, 0);
        x.row(0, 1, 0);
        x.row(1, 0, 0);
        x.row(1, 1, 900);
        same("the second alone", x.over(6, 0), 1);
        same("no other", x.over(6, 1), NONE);
    }

    static void p14NoBins() {
        same("at 9999", new FillForecast().over(9999, 0), NONE);
    }

    // 15: cost

    static void p15Cents0To1000() {
        FillForecast x = withRows(0, 990, 240, 1010);
        for (int wrong : new int[] {-1, 1001, LEAST, MOST}) {
            DUE.no("early " + wrong, x.cost(wrong, 7));
            DUE.no("late " + wrong, x.cost(7, wrong));
            DUE.no("both " + wrong, x.cost(wrong, wrong));
        }
        same("1 as before", x.costOf(0, 0), 10);
        same("1 as before", x.costOf(0, 10), 10);
        DUE.yes("least and most", x.cost(0, 1000));
        same("early", x.costOf(0, 0), 0);
        same("late", x.costOf(0, 10), 10000);
        DUE.yes("most and least", x.cost(1000, 0));
        same("early", x.costOf(0, 0), 10000);
        same("late", x.costOf(0, 10), 0);
        DUE.yes("least", x.cost(0, 0));
        same("early", x.costOf(0, 0), 0);
        same("late", x.costOf(0, 10), 0);
        DUE.yes("most", x.cost(1000, 1000));
        same("early", x.costOf(0, 0), 10000);
        same("late", x.costOf(0, 10), 10000);
    }

    // 16: costOf

    static void p16Around1000() {
        FillForecast x = withBins(1);
        x.cost(3, 7);
        int[] shares = {0, 1, 999, 1000, 1001, 1500};
        int[] costs = {3000, 2997, 3, 0, 7, 3500};
        for (int i = 0; i < shares.length; i++) {
            x.row(0, 24, shares[i]);
            same("at a share of " + shares[i], x.costOf(0, 1), costs[i]);
        }
    }

    static void p16Days0To416() {
        FillForecast x = withBins(1);
        x.cost(3, 7);
        same("day 0", x.costOf(0, 0), 3000);
        same("day 416", x.costOf(0, 416), 40600 * 7);
        for (int day : new int[] {-1, 417, LEAST, MOST}) {
            same("day " + day, x.costOf(0, day), NONE);
        }
        for (int bin : new int[] {-1, 1, 8, LEAST, MOST}) {
            same("bin " + bin, x.costOf(bin, 0), NONE);
        }
    }

    static void p16TheFirstHourOfTheDay() {
        FillForecast x = withRows(23, 900, 25, 1300);
        // The hour 23 has the rate of weekday 0, 100; the row of hour 25 is behind the first hour.
        same("by the row of the day before", x.costOf(0, 1), 1000 - (900 + 100 / 24));
        x.row(0, 24, 950);
        same("by the row of the hour", x.costOf(0, 1), 50);
        x.emptied(0, 24, 5);
        same("by the emptying of the hour", x.costOf(0, 1), 1000);
    }

    static void p16TheMost() {
        FillForecast x = withRows(0, 0, 1, 1500);
        x.cost(1000, 1000);
        for (int day = 0; day <= 416; day++) {
            x.holiday(day, true);
        }
        same("day 416", x.costOf(0, 416), (1500L + 9983L * 1500 - 1000) * 1000);
    }

    // 17: day

    static void p17FromOneToAnotherWithIt() {
        FillForecast x = withBins(1);
        same("all", x.day(0, 0, 416), 10);
        same("the best is the last", x.day(0, 0, 10), 10);
        same("the best is behind", x.day(0, 0, 9), 9);
        same("the best is the first", x.day(0, 10, 416), 10);
        same("the best is the second", x.day(0, 9, 416), 10);
        same("the best is the second of two", x.day(0, 9, 10), 10);
        same("the best is before", x.day(0, 11, 416), 11);
    }

    static void p17OneDay() {
        FillForecast x = withBins(1);
        for (int day : new int[] {0, 1, 10, 415, 416}) {
            same("day " + day, x.day(0, day, day), day);
        }
    }

    static void p17TheFirstBehindTheSecond() {
        FillForecast x = withBins(1);
        same("by one", x.day(0, 5, 4), NONE);
        same("by all", x.day(0, 416, 0), NONE);
    }

    static void p17NoSuchDayOrBin() {
        FillForecast x = withBins(1);
        for (int wrong : new int[] {-1, 417, LEAST, MOST}) {
            same("from " + wrong, x.day(0, wrong, 416), NONE);
            same("to " + wrong, x.day(0, 0, wrong), NONE);
            same("both " + wrong, x.day(0, wrong, wrong), NONE);
            same("bin " + wrong, x.day(wrong, 0, 416), NONE);
        }
        same("bin 1", x.day(1, 0, 416), NONE);
    }

    static void p17OfTheSameTheEarliest() {
        FillForecast x = withRows(0, 50);
        same("50 too early before 50 too late", x.day(0, 0, 416), 9);
        same("from it on", x.day(0, 9, 10), 9);
        same("behind it", x.day(0, 10, 416), 10);
        x.cost(0, 0);
        same("all the same", x.day(0, 0, 416), 0);
        same("all the same", x.day(0, 200, 416), 200);
        x.cost(0, 1);
        same("all that are too early", x.day(0, 3, 416), 3);
        x.cost(1, 0);
        same("all that are too late", x.day(0, 0, 416), 10);
        same("all that are too late", x.day(0, 15, 416), 15);
    }

    static void p17AnEarlierDayBehindAnEmptying() {
        FillForecast x = withRows(240, 1000);
        x.emptied(0, 241, 5);
        x.row(0, 480, 1000);
        same("two of no cost", x.day(0, 0, 416), 10);
        same("the second", x.day(0, 11, 416), 20);
    }

    static void p17TheLastDay() {
        FillForecast x = withRows(9984, 1000);
        x.emptied(0, 200, 5);
        x.cost(1, 1000);
        same("day 416", x.day(0, 400, 416), 416);
        same("before it", x.day(0, 400, 415), 400);
    }

    // 18: check

    static void p18KFrom0OnByHours() {
        FillForecast x = withBins(1);
        x.emptied(0, 9999, 3);
        x.emptied(0, 0, 1);
        x.emptied(0, 24, 2);
        same("0", x.check(0, 0), 1);
        same("1", x.check(0, 1), 2 - 100);
        same("2", x.check(0, 2), 3 - 9975 * 100 / 24);
        for (int k : new int[] {-1, 3, LEAST, MOST}) {
            same("k " + k, x.check(0, k), Long.MIN_VALUE);
        }
        for (int bin : new int[] {-1, 1, 8, LEAST, MOST}) {
            same("bin " + bin, x.check(bin, 0), Long.MIN_VALUE);
        }
    }

    static void p18NoneWithoutEmptyings() {
        FillForecast x = withBins(1);
        same("no points", x.check(0, 0), Long.MIN_VALUE);
        x.row(0, 5, 5);
        same("a row", x.check(0, 0), Long.MIN_VALUE);
    }

    static void p18WithoutAPointBefore0AtHour0() {
        FillForecast x = withBins(1);
        x.emptied(0, 48, 5);
        same("two days", x.check(0, 0), 5 - 200);
    }

    static void p18ARowOfTheSameHourIsBeforeIt() {
        FillForecast x = withRows(10, 100);
        x.emptied(0, 34, 5);
        same("by the row a day before", x.check(0, 0), 5 - 200);
        x.row(0, 34, 300);
        same("by the row of its hour", x.check(0, 0), 5 - 300);
    }

    static void p18AWrongRowOfTheSameHourIsNot() {
        FillForecast x = withRows(10, 100, 34, 99);
        x.emptied(0, 34, 5);
        same("by the row a day before", x.check(0, 0), 5 - 200);
    }

    static void p18AnEmptyingBeforeIt() {
        FillForecast x = withRows(10, 100);
        x.emptied(0, 10, 5);
        x.emptied(0, 34, 5);
        same("by the emptying", x.check(0, 1), 5 - 100);
        same("by the row", x.check(0, 0), 5 - 100);
    }

    static void p18PointsBehindItAreNotBeforeIt() {
        FillForecast x = withRows(10, 100);
        x.emptied(0, 34, 5);
        x.row(0, 35, 1000);
        x.emptied(0, 36, 5);
        same("by the row a day before, at new rates", x.check(0, 0), 5 - (100 + (14 * 100 + 10 * 24000) / 24));
    }

    static void p18RoomTimesShareIsDown() {
        FillForecast x = new FillForecast();
        x.bin(0, 1);
        x.row(0, 10, 999);
        x.emptied(0, 10, 0);
        same("999 thousandths of 1", x.check(0, 0), 0);
        x.row(0, 10, 1000);
        same("1000 thousandths of 1", x.check(0, 0), -1);
        x.bin(0, 333);
        x.row(1, 10, 3);
        x.emptied(1, 10, 0);
        same("3 thousandths of 333", x.check(1, 0), 0);
        x.row(1, 10, 4);
        same("4 thousandths of 333", x.check(1, 0), -1);
    }

    static void p18WhatIsExpectedIsDownFirst() {
        FillForecast x = new FillForecast();
        x.bin(0, 10000);
        x.emptied(0, 1, 0);
        same("4 thousandths, not 4 and a sixth, of 10000", x.check(0, 0), -40);
    }

    static void p18MoreOrLessThanExpected() {
        FillForecast x = withRows(10, 500);
        x.emptied(0, 10, 500);
        same("as many", x.check(0, 0), 0);
        x.emptied(0, 10, 501);
        same("one more", x.check(0, 0), 1);
        x.emptied(0, 10, 499);
        same("one less", x.check(0, 0), -1);
    }

    static void p18TheMost() {
        FillForecast x = new FillForecast();
        x.bin(0, 10000);
        x.row(0, 0, 0);
        x.row(0, 1, 1500);
        for (int day = 0; day <= 416; day++) {
            x.holiday(day, true);
        }
        x.emptied(0, 9999, 0);
        same("beyond an int", x.check(0, 0), -(1500L + 9998L * 1500) * 10);
    }
}
