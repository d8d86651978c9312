import java.util.ArrayList;
import java.util.List;

/**
 * "A call that is refused changes nothing": each refused call alone, in a new object, in an ordinary one and in a
 * full one. Every look at the object that was refused must answer as at one that was not.
 */
public final class RefusedTest {
    private static final int CALLS_AT_MOST = 512;
    private static final int NONE = -1;
    private static final int LEAST = Integer.MIN_VALUE;
    private static final int MOST = Integer.MAX_VALUE;
    private static final Due DUE = new Due();

    public static void main(String[] args) {
        Cases.runAll(RefusedTest.class, DUE);
    }

    static void inNewObject() {
        List<Call> state = new ArrayList<>();
        refuseAll(state, 0);
    }

    static void inOrdinaryObject() {
        List<Call> state = ordinary();
        refuseAll(state, 4);
    }

    static void inFullObject() {
        List<Call> state = full();
        refuseAll(state, 8);
        for (int room : new int[] {1, 10, 10000}) {
            refuse(state, 8, Call.bin(3, room), NONE);
        }
        for (int bin : new int[] {0, 7}) {
            for (int hour : new int[] {0, 39, 41, 700, 9999}) {
                refuse(state, 8, Call.row(bin, hour, 1500), NONE);
                refuse(state, 8, Call.row(bin, hour, 0), NONE);
                refuse(state, 8, Call.emptied(bin, hour, 100000), NONE);
                refuse(state, 8, Call.emptied(bin, hour, 0), NONE);
            }
        }
    }

    private static List<Call> ordinary() {
        List<Call> state = new ArrayList<>(List.of(Call.bin(0, 200), Call.bin(0, 100), Call.bin(1, 50),
                Call.bin(3, 10000), Call.fade(2, 3), Call.quiet(30), Call.cost(3, 7),
                Call.holiday(2, true), Call.holiday(416, true)));
        int[] hours = {10, 34, 40, 61, 70, 100, 130, 151};
        int[] shares = {150, 250, 240, 400, 300, 50, 90, 333};
        for (int i = 0; i < hours.length; i++) {
            state.add(Call.row(0, hours[i], shares[i]));
            state.add(Call.row(1, hours[i] + 5, shares[i] * 2));
        }
        state.add(Call.emptied(0, 61, 70));
        state.add(Call.emptied(0, 90, 20));
        state.add(Call.emptied(1, 96, 40));
        state.add(Call.emptied(2, 40, 33));
        return state;
    }

    private static List<Call> full() {
        List<Call> state = new ArrayList<>();
        for (int bin = 0; bin < 8; bin++) {
            state.add(Call.bin(bin % 4, 100 + bin));
        }
        for (int bin = 0; bin < 8; bin += 7) {
            for (int i = 0; i < 24; i++) {
                state.add(Call.row(bin, 20 + 10 * i, 150 + 50 * i - 90 * (i % 3)));
            }
            for (int i = 0; i < 8; i++) {
                state.add(Call.emptied(bin, 40 + 55 * i, 10 + i));
            }
        }
        state.add(Call.row(4, 47, 10));
        state.add(Call.row(4, 48, 11));
        return state;
    }

    private static void refuseAll(List<Call> state, int bins) {
        refuseTellings(state, bins);
        refuseSettings(state, bins);
        refuseQuestions(state, bins);
    }

    private static void refuseTellings(List<Call> state, int bins) {
        for (int street : new int[] {-1, 4, LEAST, MOST}) {
            refuse(state, bins, Call.bin(street, 10), NONE);
        }
        for (int room : new int[] {0, -1, 10001, LEAST, MOST}) {
            refuse(state, bins, Call.bin(0, room), NONE);
        }
        for (int bin : new int[] {-1, bins, 8, LEAST, MOST}) {
            refuse(state, bins, Call.row(bin, 40, 5), NONE);
            refuse(state, bins, Call.emptied(bin, 40, 5), NONE);
        }
        for (int hour : new int[] {-1, -24, 10000, 10007, LEAST, MOST}) {
            refuse(state, bins, Call.row(0, hour, 5), NONE);
            refuse(state, bins, Call.emptied(0, hour, 5), NONE);
        }
        // At hour 40 there is a row that must stay, at hour 41 none that may come.
        for (int hour : new int[] {40, 41}) {
            for (int share : new int[] {-1, 1501, LEAST, MOST}) {
                refuse(state, bins, Call.row(0, hour, share), NONE);
            }
        }
        for (int hour : new int[] {90, 91, 95}) {
            for (int kilograms : new int[] {-1, 100001, LEAST, MOST}) {
                refuse(state, bins, Call.emptied(0, hour, kilograms), NONE);
            }
        }
    }

    private static void refuseSettings(List<Call> state, int bins) {
        int[][] fades = {{0, 1}, {0, 0}, {0, 9}, {-1, 5}, {5, 0}, {5, -1}, {-2, -1}, {1, 10}, {9, 10}, {10, 10},
            {10, 9}, {2, 1}, {9, 8}, {9, 1}, {LEAST, LEAST}, {LEAST, 5}, {5, LEAST},
            {1, MOST}, {MOST, MOST}, {MOST, 1}};
        for (int[] fade : fades) {
            refuse(state, bins, Call.fade(fade[0], fade[1]), 0);
        }
        for (int day : new int[] {-1, 417, LEAST, MOST}) {
            refuse(state, bins, Call.holiday(day, true), 0);
            refuse(state, bins, Call.holiday(day, false), 0);
        }
        for (int wrong : new int[] {-1, 1001, LEAST, MOST}) {
            refuse(state, bins, Call.quiet(wrong), 0);
            refuse(state, bins, Call.cost(wrong, 5), 0);
            refuse(state, bins, Call.cost(5, wrong), 0);
            refuse(state, bins, Call.cost(wrong, wrong), 0);
        }
    }

    private static void refuseQuestions(List<Call> state, int bins) {
        for (int bin : new int[] {-1, bins, 8, LEAST, MOST}) {
            refuse(state, bins, Call.mean(bin, 0), NONE);
            refuse(state, bins, Call.rate(bin, 0), NONE);
            refuse(state, bins, Call.expected(bin, 0), NONE);
            refuse(state, bins, Call.wrong(bin, 0), NONE);
            refuse(state, bins, Call.costOf(bin, 0), NONE);
            refuse(state, bins, Call.day(bin, 0, 1), NONE);
            refuse(state, bins, Call.check(bin, 0), Long.MIN_VALUE);
        }
        for (int wrong : new int[] {-1, 10000, LEAST, MOST}) {
            refuse(state, bins, Call.mean(0, wrong), NONE);
            refuse(state, bins, Call.rate(0, wrong), NONE);
            refuse(state, bins, Call.weight(wrong), NONE);
            refuse(state, bins, Call.expected(0, wrong), NONE);
            refuse(state, bins, Call.wrong(0, wrong), NONE);
            refuse(state, bins, Call.silent(wrong, 0), NONE);
            refuse(state, bins, Call.silent(9999, wrong), NONE);
            refuse(state, bins, Call.over(wrong, 0), NONE);
            refuse(state, bins, Call.over(9999, wrong), NONE);
            refuse(state, bins, Call.costOf(0, wrong), NONE);
            refuse(state, bins, Call.day(0, wrong, 5), NONE);
            refuse(state, bins, Call.day(0, 5, wrong), NONE);
            refuse(state, bins, Call.check(0, wrong), Long.MIN_VALUE);
        }
        refuse(state, bins, Call.mean(0, 7), NONE);
        refuse(state, bins, Call.rate(0, 417), NONE);
        refuse(state, bins, Call.weight(8), NONE);
        refuse(state, bins, Call.silent(0, bins), NONE);
        refuse(state, bins, Call.over(9999, bins), NONE);
        refuse(state, bins, Call.costOf(0, 417), NONE);
        refuse(state, bins, Call.day(0, 0, 417), NONE);
        refuse(state, bins, Call.day(0, 6, 5), NONE);
        refuse(state, bins, Call.check(0, 8), Long.MIN_VALUE);
    }

    private static void refuse(List<Call> state, int bins, Call refused, long due) {
        for (List<Call> looks : allLooks(bins)) {
            FillForecast plain = made(state);
            FillForecast tried = made(state);
            DUE.same(refused.toString(), refused.on(tried), due);
            for (Call look : looks) {
                DUE.same(look + " behind the refused " + refused, look.on(tried), look.on(plain));
            }
            if (state.size() + 1 + looks.size() > CALLS_AT_MOST) {
                DUE.fail("more calls than an object is good for");
            }
        }
    }

    private static FillForecast made(List<Call> state) {
        FillForecast x = new FillForecast();
        for (Call call : state) {
            if (call.on(x) == NONE) {
                DUE.fail(call + " of the state was refused");
            }
        }
        return x;
    }

    private static List<List<Call>> allLooks(int bins) {
        return List.of(looksAtPoints(bins), looksAhead(bins), looksAtSettings(), looksByTelling(bins));
    }

    private static List<Call> looksAtPoints(int bins) {
        List<Call> looks = new ArrayList<>();
        for (int bin = 0; bin <= bins; bin++) {
            for (int weekday = 0; weekday < 7; weekday++) {
                looks.add(Call.mean(bin, weekday));
                looks.add(Call.rate(bin, weekday));
            }
            for (int k = 0; k < 12; k++) {
                looks.add(Call.wrong(bin, k));
            }
            for (int k = 0; k < 9; k++) {
                looks.add(Call.check(bin, k));
            }
        }
        return looks;
    }

    private static List<Call> looksAhead(int bins) {
        List<Call> looks = new ArrayList<>();
        for (int bin = 0; bin <= bins; bin++) {
            for (int hour : new int[] {0, 1, 39, 40, 41, 61, 90, 91, 240, 700, 9999}) {
                looks.add(Call.expected(bin, hour));
            }
            for (int day : new int[] {0, 2, 5, 11, 100, 416}) {
                looks.add(Call.costOf(bin, day));
            }
            looks.add(Call.day(bin, 0, 416));
            looks.add(Call.day(bin, 3, 8));
        }
        for (int k = 0; k <= bins; k++) {
            for (int hour : new int[] {0, 41, 90, 180, 182, 186, 250, 265, 600, 9999}) {
                looks.add(Call.silent(hour, k));
                looks.add(Call.over(hour, k));
            }
        }
        return looks;
    }

    /** A bin that has a mean of weekday 6 unlike the others shows which days are holidays. */
    private static List<Call> looksAtSettings() {
        List<Call> looks = new ArrayList<>();
        looks.add(Call.bin(0, 10));
        looks.add(Call.row(0, 24 * 6, 1490));
        looks.add(Call.row(0, 24 * 6 + 1, 1491));
        for (int day = 0; day <= 416; day++) {
            if (day % 7 != 6 && (day < 30 || day > 400 || day % 7 == 2)) {
                looks.add(Call.rate(0, day));
            }
        }
        for (int age = 0; age <= 7; age++) {
            looks.add(Call.weight(age));
        }
        for (int hours : new int[] {0, 1, 29, 30, 31, 71, 72, 73, 999, 1000, 1001, 1002}) {
            looks.add(Call.silent(24 * 6 + 1 + hours, 0));
            looks.add(Call.silent(151 + hours, 0));
        }
        looks.add(Call.costOf(0, 0));
        looks.add(Call.costOf(0, 12));
        looks.add(Call.costOf(0, 416));
        return looks;
    }

    /** How many bins, rows and emptyings there are shows when there come more of them. */
    private static List<Call> looksByTelling(int bins) {
        List<Call> looks = new ArrayList<>();
        looks.add(Call.bin(0, 77));
        for (int bin = 0; bin <= bins; bin++) {
            looks.add(Call.row(bin, 40, 201));
            looks.add(Call.row(bin, 43, 202));
            looks.add(Call.emptied(bin, 90, 5));
            looks.add(Call.emptied(bin, 92, 6));
            looks.add(Call.expected(bin, 43));
            looks.add(Call.check(bin, 0));
            looks.add(Call.wrong(bin, 0));
        }
        for (int i = 0; i < 9; i++) {
            looks.add(Call.bin(3, 50));
        }
        return looks;
    }
}
