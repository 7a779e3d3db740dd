import java.lang.reflect.Field;
import java.util.function.Supplier;

/** Setup texts and objects from which many tests start. */
final class Samples {
    /** Two classes, two varieties, three growers (one without plots), three plots, three tanks. */
    static final String BASE = "cooperative 10 1000;classes 80 50;variety red;variety rose;"
            + "price red 0 3;price red 1 2;price rose 0 5;grower ann;grower bert;grower cleo;"
            + "plot ann red 10;plot bert rose 20;plot bert red 5;tank 100;tank 300;tank 200;";
    /** The least that a text may hold. */
    static final String NONE = "cooperative 1 0;classes 60;";
    /** One of each. */
    static final String ONE = "cooperative 9 500;classes 60;variety v;grower g;plot g v 9;tank 90;"
            + "load 0 40 70;bottle 0 10;";
    /** As many varieties, classes, growers, plots and tanks as there may be; the tank 0 is small. */
    static final String WIDE = "cooperative 100 9999;classes 90 75 60 45;"
            + "variety a;variety b;variety c;variety d;"
            + "grower e;grower f;grower g;grower h;grower i;grower j;"
            + "plot e a 9;plot f b 9;plot g c 9;plot h d 9;plot i a 9;plot j b 9;plot e c 9;plot f d 9;"
            + "tank 25;tank 100;tank 100;tank 100;tank 100;";
    /** Room for 20 loads of the greatest weight, and not for a bottle more. */
    static final String HUGE = "cooperative 200 99999;classes 100 0;variety v;grower g;plot g v 99;plot g v 99;"
            + "tank 20000;tank 20000;tank 20000;tank 20000;tank 20000;";

    static final int MIN = Integer.MIN_VALUE;
    static final int MAX = Integer.MAX_VALUE;

    private Samples() {
    }

    static String times(int times, String text) {
        StringBuilder all = new StringBuilder();
        for (int i = 0; i < times; i++) {
            all.append(text);
        }
        return all.toString();
    }

    static WineCooperative base(String more) {
        return Check.loaded(BASE + more);
    }

    static WineCooperative none() {
        return Check.loaded(NONE);
    }

    static WineCooperative one() {
        return Check.loaded(ONE);
    }

    /** Loads of 10 kilograms, from one plot after the other; then lots of one bottle, tank by tank. */
    static WineCooperative wide(int loads, int lots) {
        WineCooperative x = Check.loaded(WIDE);
        for (int i = 0; i < loads; i++) {
            x.deliver(i % 8, 10, 90);
        }
        for (int i = 0; i < lots; i++) {
            x.bottle(i % 5, 1);
        }
        return x;
    }

    /** Loads of 5000 kilograms from plot 0. */
    static WineCooperative huge(int loads) {
        WineCooperative x = Check.loaded(HUGE);
        for (int i = 0; i < loads; i++) {
            x.deliver(0, 5000, 250);
        }
        return x;
    }

    /** Puts more cash in than any run of calls can earn. */
    static WineCooperative withCash(WineCooperative x, int cents) {
        try {
            Field field = WineCooperative.class.getDeclaredField("books");
            field.setAccessible(true);
            Object books = field.get(x);
            Field cash = books.getClass().getDeclaredField("cash");
            cash.setAccessible(true);
            cash.setInt(books, cents);
        } catch (ReflectiveOperationException e) {
            throw new IllegalStateException("the cash stands elsewhere now", e);
        }
        Check.same("cash()", x.cash(), cents);
        return x;
    }

    static Supplier<WineCooperative> baseWith(String more) {
        return () -> base(more);
    }
}
