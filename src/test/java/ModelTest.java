import java.util.ArrayList;
import java.util.List;
import java.util.Random;
import java.util.TreeMap;
import java.util.TreeSet;

/** Random runs of 512 calls, each answer compared with that of a slow model along the document's words. */
public final class ModelTest {
    private static final int RUNS = 400;
    private static final int CALLS = 512;
    private static final int KINDS = 17;
    private static final int[] ODD = {Integer.MIN_VALUE, Integer.MAX_VALUE, -1, -2, 10000, 417, 1501, 1 << 30};

    private final Due due;
    private final Random random;
    private final FillForecast tested = new FillForecast();
    private final Model model = new Model();
    private final int lastHour;
    private final int oddity;

    private ModelTest(Due due, int seed) {
        this.due = due;
        random = new Random(seed);
        // Short spans make points meet at the same hours, long ones reach the last day.
        lastHour = new int[] {40, 200, 1500, 9999}[seed % 4];
        oddity = seed % 5 == 0 ? 10 : 60;
    }

    public static void main(String[] args) {
        Due due = new Due();
        for (int seed = 0; seed < RUNS; seed++) {
            new ModelTest(due, seed).run(seed);
        }
        due.end();
    }

    private void run(int seed) {
        for (int i = 0; i < CALLS; i++) {
            int kind = random.nextInt(KINDS * 2);
            // Half of the calls tell rows and emptyings, so that the bins fill.
            callOne("seed " + seed + ", call " + i + ": ", kind < KINDS ? kind : kind % 4 == 0 ? 2 : 1);
        }
    }

    private int some(int least, int most) {
        if (random.nextInt(oddity) == 0) {
            int pick = random.nextInt(ODD.length + 2);
            return pick < ODD.length ? ODD[pick] : pick == ODD.length ? least - 1 : most + 1;
        }
        return least + random.nextInt(most - least + 1);
    }

    private int someBin() {
        return some(0, Math.max(0, Math.min(model.bins.size(), 7)));
    }

    private int someHour() {
        return some(0, lastHour);
    }

    private int someDay() {
        return some(0, random.nextInt(4) == 0 ? 416 : lastHour / 24);
    }

    private static long number(boolean answer) {
        return answer ? 1 : 0;
    }

    private void callOne(String where, int kind) {
        if (kind < 6) {
            tell(where, kind);
        } else if (kind < 11) {
            askNumbers(where, kind);
        } else {
            askBins(where, kind);
        }
    }

    private void tell(String where, int kind) {
        int bin = someBin();
        int hour = someHour();
        boolean on = random.nextBoolean();
        switch (kind) {
            case 0 -> {
                int street = some(0, 3);
                int room = some(1, 10000);
                due.same(where + "bin", tested.bin(street, room), model.bin(street, room));
            }
            case 1 -> {
                // Shares that mostly rise with the hours give gains, the others wrong rows.
                int top = on ? 1500 : (int) (1500L * Math.max(0, Math.min(hour, 9999)) / (lastHour + 1));
                int share = some(on ? 0 : top / 2, top);
                due.same(where + "row " + bin + " " + hour + " " + share,
                        tested.row(bin, hour, share), model.row(bin, hour, share));
            }
            case 2 -> {
                int kilograms = some(0, 100000);
                due.same(where + "emptied", tested.emptied(bin, hour, kilograms), model.emptied(bin, hour, kilograms));
            }
            case 3 -> {
                int a = some(1, 9);
                int b = some(1, 9);
                due.same(where + "fade", number(tested.fade(a, b)), number(model.fade(a, b)));
            }
            case 4 -> {
                int day = someDay();
                due.same(where + "holiday", number(tested.holiday(day, on)), number(model.holiday(day, on)));
            }
            default -> {
                int early = some(0, 1000);
                int late = some(0, 1000);
                due.same(where + "cost", number(tested.cost(early, late)), number(model.cost(early, late)));
            }
        }
    }

    private void askNumbers(String where, int kind) {
        int bin = someBin();
        switch (kind) {
            case 6 -> {
                int weekday = some(0, 6);
                due.same(where + "mean", tested.mean(bin, weekday), model.mean(bin, weekday));
            }
            case 7 -> {
                int day = someDay();
                due.same(where + "rate", tested.rate(bin, day), model.rate(bin, day));
            }
            case 8 -> {
                int age = some(0, 7);
                due.same(where + "weight", tested.weight(age), model.weight(age));
            }
            case 9 -> {
                int hour = random.nextInt(8) == 0 ? some(0, 9999) : someHour();
                due.same(where + "expected", tested.expected(bin, hour), model.expected(bin, hour));
            }
            default -> {
                int k = some(0, 3);
                due.same(where + "wrong", tested.wrong(bin, k), model.wrong(bin, k));
            }
        }
    }

    private void askBins(String where, int kind) {
        int bin = someBin();
        int hour = someHour();
        int k = some(0, 3);
        int from = someDay();
        switch (kind) {
            case 11 -> {
                int hours = some(0, random.nextBoolean() ? 1000 : 30);
                due.same(where + "quiet", number(tested.quiet(hours)), number(model.quiet(hours)));
            }
            case 12 -> due.same(where + "silent", tested.silent(hour, k), model.silent(hour, k));
            case 13 -> due.same(where + "over", tested.over(hour, k), model.over(hour, k));
            case 14 -> due.same(where + "costOf", tested.costOf(bin, from), model.costOf(bin, from));
            case 15 -> {
                int to = random.nextInt(4) == 0 ? someDay() : from + random.nextInt(12);
                due.same(where + "day", tested.day(bin, from, to), model.day(bin, from, to));
            }
            default -> due.same(where + "check", tested.check(bin, k), model.check(bin, k));
        }
    }

    private record Point(int hour, int share, boolean isRow) { }

    private record Gain(int hour, int amount) { }

    private static final class ModelBin {
        final int street;
        final int room;
        final TreeMap<Integer, Integer> rows = new TreeMap<>();
        final TreeMap<Integer, Integer> emptyings = new TreeMap<>();

        ModelBin(int street, int room) {
            this.street = street;
            this.room = room;
        }

        List<Point> points() {
            List<Point> points = new ArrayList<>();
            TreeSet<Integer> hours = new TreeSet<>(rows.keySet());
            hours.addAll(emptyings.keySet());
            for (int hour : hours) {
                if (rows.containsKey(hour)) {
                    points.add(new Point(hour, rows.get(hour), true));
                }
                if (emptyings.containsKey(hour)) {
                    points.add(new Point(hour, 0, false));
                }
            }
            return points;
        }

        /** The points that are not wrong; the hours of those that are go into the other list. */
        List<Point> rightPoints(List<Integer> wrongHours) {
            List<Point> right = new ArrayList<>();
            for (Point point : points()) {
                boolean first = right.isEmpty();
                if (point.isRow && !first && point.share < right.get(right.size() - 1).share) {
                    wrongHours.add(point.hour);
                } else {
                    right.add(point);
                }
            }
            return right;
        }

        List<Gain> gains() {
            List<Gain> gains = new ArrayList<>();
            List<Point> right = rightPoints(new ArrayList<>());
            for (int i = 1; i < right.size(); i++) {
                Point point = right.get(i);
                Point b = right.get(i - 1);
                if (point.isRow) {
                    gains.add(new Gain(point.hour, (point.share - b.share) * 24 / (point.hour - b.hour)));
                }
            }
            return gains;
        }
    }

    private static final class Model {
        final List<ModelBin> bins = new ArrayList<>();
        final boolean[] holidays = new boolean[417];
        int a = 1;
        int b = 2;
        int early = 1;
        int late = 1;
        int silence = 72;

        boolean isBin(int bin) {
            return bin >= 0 && bin < bins.size();
        }

        static boolean isHour(int hour) {
            return hour >= 0 && hour <= 9999;
        }

        static boolean isDay(int day) {
            return day >= 0 && day <= 416;
        }

        int weekday(int hour) {
            return holidays[hour / 24] ? 6 : hour / 24 % 7;
        }

        int bin(int street, int room) {
            if (bins.size() == 8 || street < 0 || street > 3 || room < 1 || room > 10000) {
                return -1;
            }
            bins.add(new ModelBin(street, room));
            return bins.size() - 1;
        }

        static int put(TreeMap<Integer, Integer> points, int most, int hour, int amount) {
            if (!points.containsKey(hour) && points.size() == most) {
                return -1;
            }
            points.put(hour, amount);
            return points.size();
        }

        int row(int bin, int hour, int share) {
            boolean fine = isBin(bin) && isHour(hour) && share >= 0 && share <= 1500;
            return fine ? put(bins.get(bin).rows, 24, hour, share) : -1;
        }

        int emptied(int bin, int hour, int kilograms) {
            boolean fine = isBin(bin) && isHour(hour) && kilograms >= 0 && kilograms <= 100000;
            return fine ? put(bins.get(bin).emptyings, 8, hour, kilograms) : -1;
        }

        boolean fade(int newA, int newB) {
            if (newA < 1 || newA > 9 || newB < 1 || newB > 9 || newA > newB) {
                return false;
            }
            a = newA;
            b = newB;
            return true;
        }

        boolean holiday(int day, boolean on) {
            if (isDay(day)) {
                holidays[day] = on;
            }
            return isDay(day);
        }

        boolean quiet(int hours) {
            boolean fine = hours >= 0 && hours <= 1000;
            silence = fine ? hours : silence;
            return fine;
        }

        boolean cost(int newEarly, int newLate) {
            boolean fine = newEarly >= 0 && newEarly <= 1000 && newLate >= 0 && newLate <= 1000;
            early = fine ? newEarly : early;
            late = fine ? newLate : late;
            return fine;
        }

        int weight(int age) {
            if (age < 0 || age > 7) {
                return -1;
            }
            return (int) Math.round(Math.pow(a, age) * Math.pow(b, 7 - age));
        }

        int mean(int bin, int weekday) {
            if (!isBin(bin) || weekday < 0 || weekday > 6) {
                return -1;
            }
            List<Integer> latestFirst = new ArrayList<>();
            for (Gain gain : bins.get(bin).gains()) {
                if (weekday(gain.hour) == weekday) {
                    latestFirst.add(0, gain.amount);
                }
            }
            if (latestFirst.isEmpty()) {
                return -1;
            }
            long sum = 0;
            long weights = 0;
            for (int age = 0; age < 8 && age < latestFirst.size(); age++) {
                sum += (long) latestFirst.get(age) * weight(age);
                weights += weight(age);
            }
            return (int) (sum / weights);
        }

        int rateOnWeekday(int bin, int weekday) {
            if (mean(bin, weekday) != -1) {
                return mean(bin, weekday);
            }
            List<Integer> means = new ArrayList<>();
            for (int other = 0; other < bins.size(); other++) {
                if (bins.get(other).street == bins.get(bin).street && mean(other, weekday) != -1) {
                    means.add(mean(other, weekday));
                }
            }
            int sum = 0;
            for (int mean : means) {
                sum += mean;
            }
            return means.isEmpty() ? 100 : sum / means.size();
        }

        int rate(int bin, int day) {
            return isBin(bin) && isDay(day) ? rateOnWeekday(bin, weekday(24 * day)) : -1;
        }

        int[] rates(int bin) {
            int[] rates = new int[7];
            for (int weekday = 0; weekday < 7; weekday++) {
                rates[weekday] = rateOnWeekday(bin, weekday);
            }
            return rates;
        }

        /** What is expected by the latest right point at the hour or before; rows of that hour alone if told so. */
        long foreseen(List<Point> right, int[] rates, int hour, boolean rowsAlone) {
            Point latest = new Point(0, 0, true);
            for (Point point : right) {
                if (point.hour < hour || point.hour == hour && (point.isRow || !rowsAlone)) {
                    latest = point;
                }
            }
            long sum = 24L * latest.share;
            for (int h = latest.hour; h < hour; h++) {
                sum += rates[weekday(h)];
            }
            return sum / 24;
        }

        long expected(int bin, int hour) {
            if (!isBin(bin) || !isHour(hour)) {
                return -1;
            }
            return foreseen(bins.get(bin).rightPoints(new ArrayList<>()), rates(bin), hour, false);
        }

        int wrong(int bin, int k) {
            if (!isBin(bin)) {
                return -1;
            }
            List<Integer> hours = new ArrayList<>();
            bins.get(bin).rightPoints(hours);
            return pick(hours, k);
        }

        static int pick(List<Integer> list, int k) {
            return k >= 0 && k < list.size() ? list.get(k) : -1;
        }

        int silent(int hour, int k) {
            List<Integer> found = new ArrayList<>();
            for (int bin = 0; bin < bins.size() && isHour(hour); bin++) {
                Integer latest = bins.get(bin).rows.floorKey(hour);
                if (latest == null || hour - latest > silence) {
                    found.add(bin);
                }
            }
            return pick(found, k);
        }

        int over(int hour, int k) {
            List<Integer> found = new ArrayList<>();
            for (int bin = 0; bin < bins.size() && isHour(hour); bin++) {
                if (expected(bin, hour) >= 1000) {
                    found.add(bin);
                }
            }
            return pick(found, k);
        }

        long costOf(int bin, int day) {
            if (!isBin(bin) || !isDay(day)) {
                return -1;
            }
            long share = expected(bin, 24 * day);
            return share < 1000 ? early * (1000 - share) : late * (share - 1000);
        }

        int day(int bin, int from, int to) {
            if (!isBin(bin) || !isDay(from) || !isDay(to) || from > to) {
                return -1;
            }
            int best = from;
            for (int day = from; day <= to; day++) {
                if (costOf(bin, day) < costOf(bin, best)) {
                    best = day;
                }
            }
            return best;
        }

        long check(int bin, int k) {
            if (!isBin(bin)) {
                return Long.MIN_VALUE;
            }
            ModelBin asked = bins.get(bin);
            int hour = pick(new ArrayList<>(asked.emptyings.keySet()), k);
            if (hour == -1) {
                return Long.MIN_VALUE;
            }
            long share = foreseen(asked.rightPoints(new ArrayList<>()), rates(bin), hour, true);
            return asked.emptyings.get(hour) - share * asked.room / 1000;
        }
    }
}
