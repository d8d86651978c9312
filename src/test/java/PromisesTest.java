/** Each promise by ordinary inputs, by the edges that the document names, and by wrong inputs. */
public final class PromisesTest {
    private static final int NONE = -1;
    private static final int[] FAR_OFF = {-1, Integer.MIN_VALUE, Integer.MAX_VALUE};
    private static final Due DUE = new Due();

    public static void main(String[] args) {
        promise1NewObject();
        promise2Bin();
        promise3Row();
        promise4Emptied();
        promise5Fade();
        promise6Holiday();
        promise7Mean();
        promise7MeanOfManyGains();
        promise7MeanOfOneGain();
        promise8Rate();
        promise9Weight();
        promise10Expected();
        promise10ExpectedByPoints();
        promise11Wrong();
        promise11WrongInFullBin();
        promise12Quiet();
        promise13Silent();
        promise14Over();
        promise15Cost();
        promise16CostOf();
        promise17Day();
        promise18Check();
        promise18CheckByPoints();
        DUE.end();
    }

    private static void same(String call, long got, long want) {
        DUE.same(call, got, want);
    }

    private static FillForecast withBin(int room) {
        FillForecast x = new FillForecast();
        same("bin(0, room)", x.bin(0, room), 0);
        return x;
    }

    private static void promise1NewObject() {
        FillForecast x = new FillForecast();
        same("1: no bin", x.rate(0, 0), NONE);
        same("1: none silent", x.silent(9999, 0), NONE);
        same("1: none over", x.over(9999, 0), NONE);
        int[] weights = {128, 64, 32, 16, 8, 4, 2, 1};
        for (int age = 0; age < 8; age++) {
            same("1: weight(" + age + ")", x.weight(age), weights[age]);
        }
        x.bin(0, 100);
        same("1: a cent for each too early", x.costOf(0, 1), 900);
        same("1: a cent for each too late", x.costOf(0, 12), 200);
        x.row(0, 10, 5);
        same("1: not silent after 72 hours", x.silent(82, 0), NONE);
        same("1: silent after 73 hours", x.silent(83, 0), 0);
        x.row(0, 34, 6);
        for (int day = 0; day <= 416; day++) {
            same("1: no holiday " + day, x.rate(0, day), day % 7 == 1 ? 1 : 100);
        }
    }

    private static void promise2Bin() {
        FillForecast x = new FillForecast();
        for (int wrong : FAR_OFF) {
            same("2: street " + wrong, x.bin(wrong, 10), NONE);
            same("2: room " + wrong, x.bin(0, wrong), NONE);
        }
        same("2: street 4", x.bin(4, 10), NONE);
        same("2: room 0", x.bin(0, 0), NONE);
        same("2: room 10001", x.bin(0, 10001), NONE);
        same("2: refused changes nothing", x.rate(0, 0), NONE);
        same("2: least room", x.bin(0, 1), 0);
        same("2: most room", x.bin(3, 10000), 1);
        for (int number = 2; number < 8; number++) {
            same("2: next bin", x.bin(number % 4, number), number);
        }
        same("2: a ninth", x.bin(0, 1), NONE);
        same("2: the last one is there", x.rate(7, 0), 100);
        same("2: no ninth", x.rate(8, 0), NONE);
        x.row(1, 24, 0);
        x.row(1, 25, 1);
        same("2: street of 1 and 7 is 3", x.rate(7, 1), 24);
        same("2: street of 6 is 2", x.rate(6, 1), 100);
        x.emptied(1, 24, 0);
        x.row(1, 24, 1500);
        same("2: room counts", x.check(1, 0), -15000);
    }

    private static void promise3Row() {
        FillForecast x = new FillForecast();
        same("3: no bin", x.row(0, 0, 0), NONE);
        x.bin(0, 10);
        for (int wrong : FAR_OFF) {
            same("3: bin " + wrong, x.row(wrong, 0, 0), NONE);
            same("3: hour " + wrong, x.row(0, wrong, 0), NONE);
            same("3: share " + wrong, x.row(0, 0, wrong), NONE);
        }
        same("3: hour 10000", x.row(0, 10000, 0), NONE);
        same("3: share 1501", x.row(0, 0, 1501), NONE);
        same("3: bin 1", x.row(1, 0, 0), NONE);
        same("3: last hour, most", x.row(0, 9999, 1500), 1);
        same("3: first hour, least", x.row(0, 0, 0), 2);
        same("3: instead", x.row(0, 9999, 1499), 2);
        same("3: it was replaced", x.expected(0, 9999), 1499);
        for (int i = 2; i < 24; i++) {
            same("3: more", x.row(0, 5000 - i, 500 - i), i + 1);
        }
        long before = x.expected(0, 5001);
        same("3: 24 others", x.row(0, 5001, 600), NONE);
        same("3: refused changes nothing", x.expected(0, 5001), before);
        same("3: 23 others", x.row(0, 0, 1), 24);
        same("3: emptyings are no rows", x.emptied(0, 5001, 1), 1);
        same("3: still full", x.row(0, 5001, 1), NONE);
        x.bin(0, 10);
        same("3: each bin its own", x.row(1, 5001, 1), 1);
    }

    private static void promise4Emptied() {
        FillForecast x = new FillForecast();
        same("4: no bin", x.emptied(0, 0, 0), NONE);
        x.bin(0, 10);
        for (int wrong : FAR_OFF) {
            same("4: bin " + wrong, x.emptied(wrong, 0, 0), NONE);
            same("4: hour " + wrong, x.emptied(0, wrong, 0), NONE);
            same("4: kilograms " + wrong, x.emptied(0, 0, wrong), NONE);
        }
        same("4: hour 10000", x.emptied(0, 10000, 0), NONE);
        same("4: kilograms 100001", x.emptied(0, 0, 100001), NONE);
        same("4: bin 1", x.emptied(1, 0, 0), NONE);
        same("4: refused changes nothing", x.check(0, 0), Long.MIN_VALUE);
        same("4: last hour, least", x.emptied(0, 9999, 0), 1);
        same("4: first hour, most", x.emptied(0, 0, 100000), 2);
        same("4: by hours", x.check(0, 0), 100000);
        same("4: instead", x.emptied(0, 0, 7), 2);
        same("4: it was replaced", x.check(0, 0), 7);
        for (int i = 2; i < 8; i++) {
            same("4: more", x.emptied(0, i, i), i + 1);
        }
        same("4: 8 others", x.emptied(0, 1, 1), NONE);
        same("4: refused changes nothing", x.check(0, 1), 2);
        same("4: 7 others", x.emptied(0, 2, 9), 8);
        same("4: rows are no emptyings", x.row(0, 2, 9), 1);
        same("4: the row is the one before", x.check(0, 1), 9);
        same("4: empty then", x.expected(0, 2), 0);
    }

    private static void promise5Fade() {
        FillForecast x = withBin(10);
        x.row(0, 0, 0);
        x.row(0, 1, 10);
        x.row(0, 2, 11);
        same("5: 1 and 2", x.mean(0, 0), (24 * 128 + 240 * 64) / 192);
        DUE.yes("5: 1 and 1", x.fade(1, 1));
        same("5: same weights", x.mean(0, 0), 132);
        DUE.yes("5: 9 and 9", x.fade(9, 9));
        DUE.yes("5: 1 and 9", x.fade(1, 9));
        same("5: by ninths", x.mean(0, 0), 45);
        same("5: weight", x.weight(1), 531441);
        DUE.no("5: more than B", x.fade(2, 1));
        DUE.no("5: more than B", x.fade(9, 8));
        DUE.no("5: A 0", x.fade(0, 1));
        DUE.no("5: both 0", x.fade(0, 0));
        DUE.no("5: B 10", x.fade(1, 10));
        DUE.no("5: both 10", x.fade(10, 10));
        for (int wrong : FAR_OFF) {
            DUE.no("5: A " + wrong, x.fade(wrong, 9));
            DUE.no("5: B " + wrong, x.fade(1, wrong));
            DUE.no("5: both " + wrong, x.fade(wrong, wrong));
        }
        same("5: refused changes nothing", x.weight(1), 531441);
    }

    private static void promise6Holiday() {
        FillForecast x = withBin(10);
        x.row(0, 24, 0);
        x.row(0, 47, 23);
        x.row(0, 48, 73);
        same("6: weekday 1", x.mean(0, 1), 24);
        same("6: weekday 2", x.mean(0, 2), 1200);
        DUE.yes("6: on", x.holiday(1, true));
        DUE.yes("6: on again", x.holiday(1, true));
        same("6: gain goes", x.mean(0, 1), NONE);
        same("6: gain goes to 6", x.mean(0, 6), 24);
        same("6: rate on it", x.rate(0, 1), 24);
        same("6: rate a week on", x.rate(0, 8), 100);
        same("6: rate on weekday 6", x.rate(0, 13), 24);
        DUE.yes("6: last day", x.holiday(416, true));
        same("6: last day", x.rate(0, 416), 24);
        DUE.yes("6: first day", x.holiday(0, true));
        same("6: first day", x.rate(0, 0), 24);
        DUE.no("6: 417", x.holiday(417, true));
        for (int wrong : FAR_OFF) {
            DUE.no("6: on " + wrong, x.holiday(wrong, true));
            DUE.no("6: off " + wrong, x.holiday(wrong, false));
        }
        DUE.yes("6: off", x.holiday(1, false));
        DUE.yes("6: off again", x.holiday(1, false));
        same("6: gain is back", x.mean(0, 1), 24);
        same("6: no gain of 6", x.mean(0, 6), NONE);
        same("6: others stay", x.rate(0, 416), 100);
        DUE.yes("6: weekday 6 is one already", x.holiday(6, true));
        same("6: it stays 6", x.rate(0, 6), 100);
    }

    private static void promise7Mean() {
        FillForecast x = new FillForecast();
        same("7: no bin", x.mean(0, 0), NONE);
        x.bin(0, 10);
        for (int wrong : FAR_OFF) {
            same("7: bin " + wrong, x.mean(wrong, 0), NONE);
            same("7: weekday " + wrong, x.mean(0, wrong), NONE);
        }
        x.row(0, 0, 300);
        same("7: a first row has no gain", x.mean(0, 0), NONE);
        x.row(0, 7, 310);
        same("7: down", x.mean(0, 0), 34);
        x.row(0, 9, 305);
        same("7: a wrong row has none", x.mean(0, 0), 34);
        x.row(0, 31, 316);
        same("7: from the latest that is not wrong", x.mean(0, 1), 6);
        same("7: weekday 7", x.mean(0, 7), NONE);
        x.emptied(0, 31, 5);
        same("7: a row stands before the emptying of its hour", x.mean(0, 1), 6);
        x.row(0, 48, 17);
        same("7: from the emptying", x.mean(0, 2), 24);
        x.row(0, 54, 17);
        same("7: a gain of 0 counts", x.mean(0, 2), 8);
        x.row(0, 4, 1500);
        same("7: told in any order", x.mean(0, 0), 7200);
        same("7: all wrong behind it", x.mean(0, 1), NONE);
        same("7: but behind the emptying", x.mean(0, 2), 8);
        x.emptied(0, 55, 0);
        same("7: an emptying has no gain", x.mean(0, 2), 8);
        x.row(0, 9999, 1500);
        same("7: last hour, day 416", x.mean(0, 416 % 7), 1500 * 24 / (9999 - 55));
    }

    private static void promise7MeanOfManyGains() {
        FillForecast x = withBin(10);
        int[] steps = {8, 7, 6, 5, 4, 3, 2, 1, 100};
        int share = 136;
        for (int i = 0; i < steps.length; i++) {
            x.row(0, 9 - i, share);
            share -= steps[i];
        }
        x.row(0, 0, 0);
        same("7: eight at most, fading", x.mean(0, 0), 43032 / 255);
        x.fade(1, 1);
        same("7: eight at most, even", x.mean(0, 0), 108);
        x.holiday(0, true);
        same("7: all on a holiday", x.mean(0, 6), 108);
        same("7: none on its own day", x.mean(0, 0), NONE);

        FillForecast y = withBin(10);
        y.row(0, 0, 0);
        for (int hour = 1; hour <= 8; hour++) {
            y.row(0, hour, 1500);
            y.emptied(0, hour, 0);
        }
        y.fade(9, 9);
        same("7: exact with the largest sums", y.mean(0, 0), 36000);
    }

    private static void promise7MeanOfOneGain() {
        FillForecast x = withBin(10);
        x.fade(1, 1);
        x.row(0, 0, 0);
        x.row(0, 24, 17);
        same("7: one gain of weight 1", x.mean(0, 1), 17);
        x.row(0, 24, 0);
        same("7: one gain of 0", x.mean(0, 1), 0);
    }

    private static void promise8Rate() {
        FillForecast x = new FillForecast();
        same("8: no bin", x.rate(0, 0), NONE);
        for (int i = 0; i < 4; i++) {
            x.bin(2, 10);
        }
        x.bin(1, 10);
        for (int wrong : FAR_OFF) {
            same("8: bin " + wrong, x.rate(wrong, 0), NONE);
            same("8: day " + wrong, x.rate(0, wrong), NONE);
        }
        same("8: day 417", x.rate(0, 417), NONE);
        same("8: bin 5", x.rate(5, 0), NONE);
        same("8: none in the street", x.rate(0, 416), 100);
        x.row(0, 24, 0);
        x.row(0, 47, 10);
        x.row(1, 24, 0);
        x.row(1, 47, 13);
        same("8: own mean", x.rate(0, 1), 10);
        same("8: own mean", x.rate(1, 1), 13);
        same("8: the street's, down", x.rate(2, 1), 11);
        same("8: of a later week", x.rate(2, 414), 11);
        same("8: another street", x.rate(4, 1), 100);
        same("8: another weekday", x.rate(2, 2), 100);
        x.row(3, 24, 5);
        x.row(3, 25, 5);
        same("8: a mean of 0 is one", x.rate(3, 1), 0);
        same("8: and counts in the street", x.rate(2, 1), 7);
        x.holiday(1, true);
        same("8: on a holiday", x.rate(2, 1), 7);
        same("8: not a week on", x.rate(2, 8), 100);
        same("8: on weekday 6", x.rate(2, 6), 7);
    }

    private static void promise9Weight() {
        FillForecast x = new FillForecast();
        same("9: 8", x.weight(8), NONE);
        for (int wrong : FAR_OFF) {
            same("9: " + wrong, x.weight(wrong), NONE);
        }
        for (int a = 1; a <= 9; a++) {
            for (int b = a; b <= 9; b++) {
                DUE.yes("9: fade", x.fade(a, b));
                for (int age = 0; age <= 7; age++) {
                    long want = Math.round(Math.pow(a, age) * Math.pow(b, 7 - age));
                    same("9: weight of " + age + " by " + a + " and " + b, x.weight(age), want);
                }
            }
        }
    }

    private static void promise10Expected() {
        FillForecast x = new FillForecast();
        same("10: no bin", x.expected(0, 0), NONE);
        x.bin(0, 10);
        for (int wrong : FAR_OFF) {
            same("10: bin " + wrong, x.expected(wrong, 0), NONE);
            same("10: hour " + wrong, x.expected(0, wrong), NONE);
        }
        same("10: hour 10000", x.expected(0, 10000), NONE);
        same("10: at 0", x.expected(0, 0), 0);
        same("10: down", x.expected(0, 1), 4);
        same("10: down", x.expected(0, 23), 95);
        same("10: a day", x.expected(0, 24), 100);
        same("10: last hour", x.expected(0, 9999), 41662);
        x.row(0, 50, 7);
        same("10: before the first point", x.expected(0, 49), 204);
        same("10: at it", x.expected(0, 50), 7);
        same("10: all down at once", x.expected(0, 51), 11);
    }

    private static void promise10ExpectedByPoints() {
        FillForecast x = withBin(10);
        x.row(0, 23, 0);
        x.row(0, 24, 10);
        same("10: within the day", x.expected(0, 47), 240);
        same("10: the day whole", x.expected(0, 48), 250);
        same("10: into the next", x.expected(0, 49), 254);
        same("10: over a week", x.expected(0, 24 + 7 * 24), 10 + 240 + 600);
        x.holiday(2, true);
        x.holiday(1, true);
        same("10: on holidays", x.expected(0, 49), 10 + 240 + 10);
        same("10: rates of days before the point", x.expected(0, 22), 91);
        x.holiday(1, false);
        x.row(0, 60, 9);
        same("10: a wrong row does not count", x.expected(0, 60), 300);
        x.row(0, 60, 10);
        same("10: the same share is not wrong", x.expected(0, 60), 10);
        x.emptied(0, 60, 4);
        same("10: of one hour the later", x.expected(0, 60), 0);
        same("10: no gain, a rate of 0 on that weekday", x.expected(0, 59), 10 + 240);
        x.fade(9, 9);
        x.row(0, 71, 1500);
        same("10: a gain told later", x.expected(0, 61), (1500 * 24 / 11 + 0) / 2 / 24);

        FillForecast y = withBin(10);
        y.row(0, 0, 0);
        y.row(0, 1, 1500);
        for (int day = 1; day <= 416; day++) {
            y.holiday(day, true);
        }
        y.holiday(0, true);
        same("10: the most", y.expected(0, 9999), (24L * 1500 + 9998L * 36000) / 24);
    }

    private static void promise11Wrong() {
        FillForecast x = new FillForecast();
        same("11: no bin", x.wrong(0, 0), NONE);
        x.bin(0, 10);
        same("11: no rows", x.wrong(0, 0), NONE);
        x.row(0, 5, 100);
        x.row(0, 9, 99);
        x.row(0, 7, 50);
        x.row(0, 11, 100);
        same("11: by hours", x.wrong(0, 0), 7);
        same("11: by hours", x.wrong(0, 1), 9);
        same("11: no more", x.wrong(0, 2), NONE);
        for (int wrong : FAR_OFF) {
            same("11: bin " + wrong, x.wrong(wrong, 0), NONE);
            same("11: k " + wrong, x.wrong(0, wrong), NONE);
        }
        x.emptied(0, 7, 1);
        same("11: a row stands before the emptying of its hour", x.wrong(0, 0), 7);
        same("11: behind it all is well", x.wrong(0, 1), NONE);
        x.emptied(0, 6, 1);
        same("11: an emptying before them", x.wrong(0, 0), NONE);
        x.row(0, 0, 1500);
        same("11: a first point is not wrong, one behind it is", x.wrong(0, 0), 5);
        same("11: an emptying never is", x.wrong(0, 1), NONE);
        x.row(0, 0, 0);
        same("11: put right", x.wrong(0, 0), NONE);
    }

    private static void promise11WrongInFullBin() {
        FillForecast x = withBin(1000);
        for (int i = 7; i >= 0; i--) {
            same("11: emptyings", x.emptied(0, 240 * i, 100 * i), 8 - i);
        }
        for (int i = 23; i >= 0; i--) {
            same("11: rows", x.row(0, 1700 + i, 1000 - i), 24 - i);
        }
        same("11: first", x.wrong(0, 0), 1701);
        same("11: last", x.wrong(0, 22), 1723);
        same("11: no more", x.wrong(0, 23), NONE);
        same("11: the gain of the one right row", x.mean(0, 0), 1200);
        same("11: last emptying", x.check(0, 7), 700 - (9 * 100 + 1200));
        same("11: no ninth emptying", x.check(0, 8), Long.MIN_VALUE);
        same("11: by the one right row", x.expected(0, 1723), (24 * 1000 + 4 * 1200 + 19 * 100) / 24);
    }

    private static void promise12Quiet() {
        FillForecast x = withBin(10);
        x.row(0, 100, 5);
        DUE.yes("12: 0", x.quiet(0));
        same("12: at its hour", x.silent(100, 0), NONE);
        same("12: an hour on", x.silent(101, 0), 0);
        DUE.yes("12: 1000", x.quiet(1000));
        DUE.no("12: 1001", x.quiet(1001));
        for (int wrong : FAR_OFF) {
            DUE.no("12: " + wrong, x.quiet(wrong));
        }
        same("12: 1000 hours", x.silent(1100, 0), NONE);
        same("12: 1001 hours", x.silent(1101, 0), 0);
    }

    private static void promise13Silent() {
        FillForecast x = new FillForecast();
        same("13: no bins", x.silent(0, 0), NONE);
        for (int i = 0; i < 4; i++) {
            x.bin(0, 10);
        }
        x.quiet(10);
        x.row(1, 50, 100);
        x.row(1, 55, 90);
        x.emptied(0, 55, 1);
        x.row(2, 66, 1);
        x.row(3, 65, 1);
        same("13: a wrong row counts, an emptying not", x.silent(65, 0), 0);
        same("13: one behind the hour does not count", x.silent(65, 1), 2);
        same("13: one at the hour does", x.silent(65, 2), NONE);
        same("13: too long ago", x.silent(66, 1), 1);
        same("13: no more", x.silent(66, 2), NONE);
        same("13: all, at 0", x.silent(0, 3), 3);
        same("13: all, at the last hour", x.silent(9999, 3), 3);
        same("13: hour 10000", x.silent(10000, 0), NONE);
        for (int wrong : FAR_OFF) {
            same("13: hour " + wrong, x.silent(wrong, 0), NONE);
            same("13: k " + wrong, x.silent(9999, wrong), NONE);
        }
    }

    private static void promise14Over() {
        FillForecast x = new FillForecast();
        same("14: no bins", x.over(9999, 0), NONE);
        for (int i = 0; i < 4; i++) {
            x.bin(i, 10);
        }
        same("14: 995 thousandths", x.over(239, 0), NONE);
        same("14: 1000 thousandths", x.over(240, 0), 0);
        same("14: by numbers", x.over(240, 3), 3);
        x.emptied(1, 240, 1);
        same("14: an emptied one is not", x.over(240, 1), 2);
        same("14: no more", x.over(240, 3), NONE);
        x.row(3, 100, 999);
        same("14: 999 thousandths", x.over(100, 0), NONE);
        x.row(3, 100, 1000);
        same("14: 1000 thousandths by a row", x.over(100, 0), 3);
        same("14: hour 10000", x.over(10000, 0), NONE);
        for (int wrong : FAR_OFF) {
            same("14: hour " + wrong, x.over(wrong, 0), NONE);
            same("14: k " + wrong, x.over(9999, wrong), NONE);
        }
    }

    private static void promise15Cost() {
        FillForecast x = withBin(10);
        DUE.yes("15: most", x.cost(1000, 0));
        same("15: early", x.costOf(0, 0), 1000000);
        same("15: late", x.costOf(0, 11), 0);
        DUE.yes("15: most", x.cost(0, 1000));
        same("15: early", x.costOf(0, 0), 0);
        same("15: late", x.costOf(0, 11), 100000);
        DUE.yes("15: both", x.cost(3, 7));
        DUE.no("15: early 1001", x.cost(1001, 1));
        DUE.no("15: late 1001", x.cost(1, 1001));
        for (int wrong : FAR_OFF) {
            DUE.no("15: early " + wrong, x.cost(wrong, 1));
            DUE.no("15: late " + wrong, x.cost(1, wrong));
        }
        same("15: refused changes nothing, early", x.costOf(0, 9), 300);
        same("15: refused changes nothing, late", x.costOf(0, 11), 700);
    }

    private static void promise16CostOf() {
        FillForecast x = new FillForecast();
        same("16: no bin", x.costOf(0, 0), NONE);
        x.bin(0, 10);
        x.cost(3, 7);
        same("16: all is lacking", x.costOf(0, 0), 3000);
        same("16: nothing is lacking", x.costOf(0, 10), 0);
        same("16: last day", x.costOf(0, 416), 40600 * 7);
        same("16: day 417", x.costOf(0, 417), NONE);
        for (int wrong : FAR_OFF) {
            same("16: bin " + wrong, x.costOf(wrong, 0), NONE);
            same("16: day " + wrong, x.costOf(0, wrong), NONE);
        }
        x.row(0, 48, 999);
        same("16: a row of the first hour counts", x.costOf(0, 2), 3);
        x.row(0, 48, 1001);
        same("16: too late", x.costOf(0, 2), 7);
        x.row(0, 49, 1400);
        same("16: a row of the second hour does not", x.costOf(0, 2), 7);
        x.emptied(0, 48, 1);
        same("16: an emptying of the first hour counts", x.costOf(0, 2), 3000);
        x.emptied(0, 49, 1);
        x.cost(1000, 1000);
        for (int day = 0; day <= 416; day++) {
            x.holiday(day, true);
        }
        same("16: beyond an int", x.costOf(0, 416), ((24L * 416 - 49) * 1400 - 1000) * 1000);
    }

    private static void promise17Day() {
        FillForecast x = new FillForecast();
        same("17: no bin", x.day(0, 0, 0), NONE);
        x.bin(0, 10);
        same("17: least", x.day(0, 0, 416), 10);
        same("17: the last with it", x.day(0, 0, 10), 10);
        same("17: the first with it", x.day(0, 10, 416), 10);
        same("17: the second", x.day(0, 9, 416), 10);
        same("17: before it", x.day(0, 0, 9), 9);
        same("17: behind it", x.day(0, 11, 416), 11);
        same("17: one day", x.day(0, 416, 416), 416);
        same("17: the first behind the second", x.day(0, 5, 4), NONE);
        same("17: from 417", x.day(0, 417, 417), NONE);
        same("17: to 417", x.day(0, 0, 417), NONE);
        for (int wrong : FAR_OFF) {
            same("17: bin " + wrong, x.day(wrong, 0, 1), NONE);
            same("17: from " + wrong, x.day(0, wrong, 416), NONE);
            same("17: to " + wrong, x.day(0, 0, wrong), NONE);
        }
        x.row(0, 0, 50);
        same("17: of the same the earliest", x.day(0, 0, 416), 9);
        x.cost(2, 1);
        same("17: late is cheaper", x.day(0, 0, 416), 10);
        x.cost(0, 0);
        same("17: all the same", x.day(0, 7, 416), 7);
        x.cost(1, 1);
        x.row(0, 480, 1000);
        same("17: a row there", x.day(0, 0, 416), 20);
    }

    private static void promise18Check() {
        FillForecast x = new FillForecast();
        same("18: no bin", x.check(0, 0), Long.MIN_VALUE);
        x.bin(0, 7);
        same("18: no emptying", x.check(0, 0), Long.MIN_VALUE);
        x.row(0, 5, 999);
        x.emptied(0, 6, 10);
        same("18: no more", x.check(0, 1), Long.MIN_VALUE);
        for (int wrong : FAR_OFF) {
            same("18: bin " + wrong, x.check(wrong, 0), Long.MIN_VALUE);
            same("18: k " + wrong, x.check(0, wrong), Long.MIN_VALUE);
        }
        same("18: an hour on, 1003 thousandths, down", x.check(0, 0), 3);
        x.row(0, 6, 999);
        same("18: a row of the same hour, down", x.check(0, 0), 4);
        x.row(0, 6, 998);
        same("18: a wrong row of the same hour", x.check(0, 0), 3);
        x.emptied(0, 6, 6);
        same("18: less than expected", x.check(0, 0), -1);
    }

    private static void promise18CheckByPoints() {
        FillForecast x = withBin(2000);
        x.emptied(0, 48, 1);
        same("18: a first point", x.check(0, 0), 1 - 400);
        x.emptied(0, 24, 300);
        same("18: by hours", x.check(0, 0), 300 - 200);
        same("18: since the emptying before", x.check(0, 1), 1 - 200);
        x.emptied(0, 0, 5);
        same("18: at hour 0", x.check(0, 0), 5);
        x.row(0, 49, 1500);
        same("18: a row behind it does not count", x.check(0, 2), 1 - 200);

        FillForecast y = withBin(10000);
        y.row(0, 0, 0);
        y.row(0, 1, 1500);
        for (int day = 0; day <= 416; day++) {
            y.holiday(day, true);
        }
        y.emptied(0, 9999, 100000);
        same("18: beyond an int", y.check(0, 0), 100000 - (1500L + 9998L * 1500) * 10);
    }
}
