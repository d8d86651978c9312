import java.util.function.ToLongFunction;

/** One call of the face with its arguments; a boolean answer counts 1 or 0. */
final class Call {
    private final String text;
    private final ToLongFunction<FillForecast> body;

    private Call(String text, ToLongFunction<FillForecast> body) {
        this.text = text;
        this.body = body;
    }

    long on(FillForecast x) {
        return body.applyAsLong(x);
    }

    @Override
    public String toString() {
        return text;
    }

    private static Call of(String name, ToLongFunction<FillForecast> body, Object... arguments) {
        StringBuilder text = new StringBuilder(name).append("(");
        for (int i = 0; i < arguments.length; i++) {
            text.append(i == 0 ? "" : ", ").append(arguments[i]);
        }
        return new Call(text.append(")").toString(), body);
    }

    static Call bin(int street, int room) {
        return of("bin", x -> x.bin(street, room), street, room);
    }

    static Call row(int bin, int hour, int share) {
        return of("row", x -> x.row(bin, hour, share), bin, hour, share);
    }

    static Call emptied(int bin, int hour, int kilograms) {
        return of("emptied", x -> x.emptied(bin, hour, kilograms), bin, hour, kilograms);
    }

    static Call fade(int a, int b) {
        return of("fade", x -> x.fade(a, b) ? 1 : 0, a, b);
    }

    static Call holiday(int day, boolean on) {
        return of("holiday", x -> x.holiday(day, on) ? 1 : 0, day, on);
    }

    static Call mean(int bin, int weekday) {
        return of("mean", x -> x.mean(bin, weekday), bin, weekday);
    }

    static Call rate(int bin, int day) {
        return of("rate", x -> x.rate(bin, day), bin, day);
    }

    static Call weight(int age) {
        return of("weight", x -> x.weight(age), age);
    }

    static Call expected(int bin, int hour) {
        return of("expected", x -> x.expected(bin, hour), bin, hour);
    }

    static Call wrong(int bin, int k) {
        return of("wrong", x -> x.wrong(bin, k), bin, k);
    }

    static Call quiet(int hours) {
        return of("quiet", x -> x.quiet(hours) ? 1 : 0, hours);
    }

    static Call silent(int hour, int k) {
        return of("silent", x -> x.silent(hour, k), hour, k);
    }

    static Call over(int hour, int k) {
        return of("over", x -> x.over(hour, k), hour, k);
    }

    static Call cost(int early, int late) {
        return of("cost", x -> x.cost(early, late) ? 1 : 0, early, late);
    }

    static Call costOf(int bin, int day) {
        return of("costOf", x -> x.costOf(bin, day), bin, day);
    }

    static Call day(int bin, int from, int to) {
        return of("day", x -> x.day(bin, from, to), bin, from, to);
    }

    static Call check(int bin, int k) {
        return of("check", x -> x.check(bin, k), bin, k);
    }
}
