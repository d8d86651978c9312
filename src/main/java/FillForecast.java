/** The fill of bins by rows from tags and by emptyings; ../shared/DOC.md holds its promises. */
public final class FillForecast {
    public static final int NONE = -1;

    private static final int BINS_AT_MOST = 8;
    private static final int STREETS = 4;
    private static final int ROOM_AT_MOST = 10000;
    private static final int SHARE_AT_MOST = 1500;
    private static final int KILOGRAMS_AT_MOST = 100000;
    private static final int SILENCE_AT_MOST = 1000;
    private static final int CENTS_AT_MOST = 1000;
    private static final int HOURS = 10000;
    private static final int DAYS = 417;
    private static final int HOURS_OF_DAY = 24;
    private static final int WEEKDAYS = 7;
    private static final int AGES = 8;
    private static final int FULL_SHARE = 1000;
    private static final int RATE_WITHOUT_ANY = 100;

    private final Calendar calendar;
    private final Fading fading;
    private final Outlook outlook;
    private final Bin[] bins;
    private int binCount;
    private int silence;
    private int earlyCents;
    private int lateCents;

    public FillForecast() {
        calendar = new Calendar();
        fading = new Fading();
        outlook = new Outlook();
        bins = new Bin[BINS_AT_MOST];
        binCount = 0;
        silence = 72;
        earlyCents = 1;
        lateCents = 1;
    }

    public int bin(int street, int room) {
        if (binCount >= BINS_AT_MOST || !isWithin(street, 0, STREETS - 1) || !isWithin(room, 1, ROOM_AT_MOST)) {
            return NONE;
        }
        bins[binCount] = new Bin(street, room);
        binCount++;
        return binCount - 1;
    }

    public int row(int bin, int hour, int share) {
        Bin told = binOf(bin);
        if (told == null || !isHour(hour) || !isWithin(share, 0, SHARE_AT_MOST)) {
            return NONE;
        }
        return told.putRow(hour, share);
    }

    public int emptied(int bin, int hour, int kilograms) {
        Bin told = binOf(bin);
        if (told == null || !isHour(hour) || !isWithin(kilograms, 0, KILOGRAMS_AT_MOST)) {
            return NONE;
        }
        return told.putEmptying(hour, kilograms);
    }

    public boolean fade(int a, int b) {
        if (!isWithin(a, 1, 9) || !isWithin(b, 1, 9) || a > b) {
            return false;
        }
        fading.setTo(a, b);
        return true;
    }

    public boolean holiday(int day, boolean on) {
        if (!isDay(day)) {
            return false;
        }
        calendar.mark(day, on);
        return true;
    }

    public int mean(int bin, int weekday) {
        Bin asked = binOf(bin);
        if (asked == null || !isWithin(weekday, 0, WEEKDAYS - 1)) {
            return NONE;
        }
        return asked.meanOn(weekday, calendar, fading);
    }

    public int rate(int bin, int day) {
        Bin asked = binOf(bin);
        if (asked == null || !isDay(day)) {
            return NONE;
        }
        return rateOn(asked, calendar.weekdayOf(day));
    }

    public int weight(int age) {
        return isWithin(age, 0, AGES - 1) ? fading.weightOf(age) : NONE;
    }

    public long expected(int bin, int hour) {
        Bin asked = binOf(bin);
        if (asked == null || !isHour(hour)) {
            return NONE;
        }
        lookAhead(asked);
        return outlook.shareAt(asked, hour);
    }

    public int wrong(int bin, int k) {
        Bin asked = binOf(bin);
        return asked == null ? NONE : asked.hourOfWrong(k);
    }

    public boolean quiet(int hours) {
        if (!isWithin(hours, 0, SILENCE_AT_MOST)) {
            return false;
        }
        silence = hours;
        return true;
    }

    public int silent(int hour, int k) {
        if (!isHour(hour)) {
            return NONE;
        }
        int found = 0;
        for (int i = 0; i < binCount; i++) {
            if (!bins[i].hasRowWithin(hour - silence, hour)) {
                if (found == k) {
                    return i;
                }
                found++;
            }
        }
        return NONE;
    }

    public int over(int hour, int k) {
        if (!isHour(hour)) {
            return NONE;
        }
        int found = 0;
        for (int i = 0; i < binCount; i++) {
            lookAhead(bins[i]);
            if (outlook.shareAt(bins[i], hour) >= FULL_SHARE) {
                if (found == k) {
                    return i;
                }
                found++;
            }
        }
        return NONE;
    }

    public boolean cost(int early, int late) {
        if (!isWithin(early, 0, CENTS_AT_MOST) || !isWithin(late, 0, CENTS_AT_MOST)) {
            return false;
        }
        earlyCents = early;
        lateCents = late;
        return true;
    }

    public long costOf(int bin, int day) {
        Bin asked = binOf(bin);
        if (asked == null || !isDay(day)) {
            return NONE;
        }
        lookAhead(asked);
        return centsOn(asked, day);
    }

    public int day(int bin, int from, int to) {
        Bin asked = binOf(bin);
        if (asked == null || !isDay(from) || !isDay(to) || from > to) {
            return NONE;
        }
        lookAhead(asked);
        int best = from;
        long least = centsOn(asked, from);
        for (int day = from + 1; day <= to; day++) {
            long cents = centsOn(asked, day);
            if (cents < least) {
                best = day;
                least = cents;
            }
        }
        return best;
    }

    public long check(int bin, int k) {
        Bin asked = binOf(bin);
        int at = asked == null ? NONE : asked.indexOfEmptying(k);
        if (asked == null || at == NONE) {
            return Long.MIN_VALUE;
        }
        lookAhead(asked);
        long share = outlook.shareBefore(asked, at);
        return asked.amountAt(at) - share * asked.roomInKilograms() / FULL_SHARE;
    }

    private static boolean isWithin(int number, int least, int most) {
        return number >= least && number <= most;
    }

    private static boolean isHour(int hour) {
        return isWithin(hour, 0, HOURS - 1);
    }

    private static boolean isDay(int day) {
        return isWithin(day, 0, DAYS - 1);
    }

    private Bin binOf(int number) {
        return isWithin(number, 0, binCount - 1) ? bins[number] : null;
    }

    private int rateOn(Bin bin, int weekday) {
        int own = bin.meanOn(weekday, calendar, fading);
        return own != NONE ? own : streetRateOn(bin.streetNumber(), weekday);
    }

    private int streetRateOn(int street, int weekday) {
        long sum = 0;
        int count = 0;
        for (int i = 0; i < binCount; i++) {
            int mean = bins[i].streetNumber() == street ? bins[i].meanOn(weekday, calendar, fading) : NONE;
            if (mean != NONE) {
                sum += mean;
                count++;
            }
        }
        return count > 0 ? (int) (sum / count) : RATE_WITHOUT_ANY;
    }

    /** Must go before every use of the outlook: rows, fade and holidays may have changed since the last. */
    private void lookAhead(Bin bin) {
        for (int weekday = 0; weekday < WEEKDAYS; weekday++) {
            outlook.setRate(weekday, rateOn(bin, weekday));
        }
        outlook.sumUp(calendar);
    }

    private long centsOn(Bin bin, int day) {
        long share = outlook.shareAt(bin, day * HOURS_OF_DAY);
        return share < FULL_SHARE ? (FULL_SHARE - share) * earlyCents : (share - FULL_SHARE) * lateCents;
    }

    /** Which weekday a day counts as. */
    private static final class Calendar {
        private static final int HOLIDAY_WEEKDAY = 6;

        private final boolean[] holidays;

        Calendar() {
            holidays = new boolean[DAYS];
        }

        void mark(int day, boolean on) {
            holidays[day] = on;
        }

        int weekdayOf(int day) {
            return holidays[day] ? HOLIDAY_WEEKDAY : day % WEEKDAYS;
        }
    }

    /** The weights of the ages, whole numbers so that means are exact. */
    private static final class Fading {
        private final int[] weights;

        Fading() {
            weights = new int[AGES];
            setTo(1, 2);
        }

        void setTo(int a, int b) {
            for (int age = 0; age < AGES; age++) {
                int product = 1;
                for (int factor = 0; factor < AGES - 1; factor++) {
                    product *= factor < age ? a : b;
                }
                weights[age] = product;
            }
        }

        int weightOf(int age) {
            return weights[age];
        }
    }

    /** A bin and its points in their order. */
    private static final class Bin {
        private static final int ROWS_AT_MOST = 24;
        private static final int EMPTYINGS_AT_MOST = 8;
        private static final int POINTS_AT_MOST = ROWS_AT_MOST + EMPTYINGS_AT_MOST;

        private final int street;
        private final int room;
        // Twice the hour, and one more for an emptying: so the order of places is the order of points.
        private final int[] places;
        // The share of a row, the kilograms of an emptying.
        private final int[] amounts;
        private final boolean[] wrongs;
        private final int[] gains;
        private int pointCount;
        private int rowCount;

        Bin(int street, int room) {
            this.street = street;
            this.room = room;
            places = new int[POINTS_AT_MOST];
            amounts = new int[POINTS_AT_MOST];
            wrongs = new boolean[POINTS_AT_MOST];
            gains = new int[POINTS_AT_MOST];
            pointCount = 0;
            rowCount = 0;
        }

        static int placeOfRow(int hour) {
            return 2 * hour;
        }

        static int placeOfEmptying(int hour) {
            return 2 * hour + 1;
        }

        int streetNumber() {
            return street;
        }

        int roomInKilograms() {
            return room;
        }

        int placeAt(int index) {
            return places[index];
        }

        int hourAt(int index) {
            return places[index] / 2;
        }

        int amountAt(int index) {
            return amounts[index];
        }

        int shareAt(int index) {
            return isRow(index) ? amounts[index] : 0;
        }

        int putRow(int hour, int share) {
            int place = placeOfRow(hour);
            int index = indexFor(place);
            if (!isTaken(index, place)) {
                if (rowCount >= ROWS_AT_MOST) {
                    return NONE;
                }
                open(index, place);
                rowCount++;
            }
            amounts[index] = share;
            judge();
            return rowCount;
        }

        int putEmptying(int hour, int kilograms) {
            int place = placeOfEmptying(hour);
            int index = indexFor(place);
            if (!isTaken(index, place)) {
                if (pointCount - rowCount >= EMPTYINGS_AT_MOST) {
                    return NONE;
                }
                open(index, place);
            }
            amounts[index] = kilograms;
            judge();
            return pointCount - rowCount;
        }

        int hourOfWrong(int k) {
            int found = 0;
            for (int i = 0; i < pointCount; i++) {
                if (wrongs[i]) {
                    if (found == k) {
                        return hourAt(i);
                    }
                    found++;
                }
            }
            return NONE;
        }

        int indexOfEmptying(int k) {
            int found = 0;
            for (int i = 0; i < pointCount; i++) {
                if (!isRow(i)) {
                    if (found == k) {
                        return i;
                    }
                    found++;
                }
            }
            return NONE;
        }

        boolean hasRowWithin(int firstHour, int lastHour) {
            for (int i = 0; i < pointCount; i++) {
                if (isRow(i) && isWithin(hourAt(i), firstHour, lastHour)) {
                    return true;
                }
            }
            return false;
        }

        /** The index of the latest point up to a place that is not wrong, or NONE. */
        int latestUpTo(int place) {
            for (int i = pointCount - 1; i >= 0; i--) {
                if (places[i] <= place && !wrongs[i]) {
                    return i;
                }
            }
            return NONE;
        }

        int meanOn(int weekday, Calendar calendar, Fading fading) {
            long sum = 0;
            long weights = 0;
            int age = 0;
            for (int i = pointCount - 1; i >= 0 && age < AGES; i--) {
                if (gains[i] != NONE && calendar.weekdayOf(hourAt(i) / HOURS_OF_DAY) == weekday) {
                    long weight = fading.weightOf(age);
                    sum += gains[i] * weight;
                    weights += weight;
                    age++;
                }
            }
            return weights > 0 ? (int) (sum / weights) : NONE;
        }

        private boolean isRow(int index) {
            return places[index] % 2 == 0;
        }

        /** Where a point of this place stands, or would stand. */
        private int indexFor(int place) {
            int index = 0;
            while (index < pointCount && places[index] < place) {
                index++;
            }
            return index;
        }

        private boolean isTaken(int index, int place) {
            return index < pointCount && places[index] == place;
        }

        private void open(int index, int place) {
            for (int i = pointCount; i > index; i--) {
                places[i] = places[i - 1];
                amounts[i] = amounts[i - 1];
            }
            places[index] = place;
            pointCount++;
        }

        /** One new point can turn any point behind it, so all are judged anew. */
        private void judge() {
            int before = NONE;
            for (int i = 0; i < pointCount; i++) {
                boolean comparable = isRow(i) && before != NONE;
                wrongs[i] = comparable && shareAt(i) < shareAt(before);
                gains[i] = comparable && !wrongs[i] ? gainFrom(before, i) : NONE;
                if (!wrongs[i]) {
                    before = i;
                }
            }
        }

        private int gainFrom(int before, int index) {
            int hours = hourAt(index) - hourAt(before);
            return hours > 0 ? (shareAt(index) - shareAt(before)) * HOURS_OF_DAY / hours : NONE;
        }
    }

    /** What one bin is expected to gain, summed by days so that a stretch of hours costs no walk over it. */
    private static final class Outlook {
        private final int[] rates;
        // The sum of the rates of all days before a day.
        private final int[] sums;

        Outlook() {
            rates = new int[WEEKDAYS];
            sums = new int[DAYS + 1];
        }

        void setRate(int weekday, int rate) {
            rates[weekday] = rate;
        }

        void sumUp(Calendar calendar) {
            for (int day = 0; day < DAYS; day++) {
                sums[day + 1] = sums[day] + rates[calendar.weekdayOf(day)];
            }
        }

        /** The share that is expected at an hour, by the points up to that hour with it. */
        long shareAt(Bin bin, int hour) {
            return shareBy(bin, bin.latestUpTo(Bin.placeOfEmptying(hour)), hour);
        }

        /** The share that is expected at the hour of a point, by the points before it. */
        long shareBefore(Bin bin, int index) {
            return shareBy(bin, bin.latestUpTo(bin.placeAt(index) - 1), bin.hourAt(index));
        }

        private long shareBy(Bin bin, int index, int hour) {
            int since = index == NONE ? 0 : bin.hourAt(index);
            long share = index == NONE ? 0 : bin.shareAt(index);
            return (HOURS_OF_DAY * share + gainUpTo(hour) - gainUpTo(since)) / HOURS_OF_DAY;
        }

        /** In 24ths: the rates of all hours before an hour, one each. */
        private long gainUpTo(int hour) {
            int day = hour / HOURS_OF_DAY;
            long rate = sums[day + 1] - sums[day];
            return (long) HOURS_OF_DAY * sums[day] + hour % HOURS_OF_DAY * rate;
        }
    }
}
