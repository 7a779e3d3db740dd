import java.util.function.Consumer;
import java.util.function.Supplier;

/** Edges that many promises have in common: numbers that name nothing, ranges, refused calls. */
final class Edges {
    /** A call with a number: of a grower, a weight and the like. */
    interface Numbered {
        Object on(WineCooperative x, int number);
    }

    /** A call with the numbers of a variety and a class. */
    interface Paired {
        Object on(WineCooperative x, int variety, int grade);
    }

    private Edges() {
    }

    static void noSuchVariety(Numbered call) {
        only(0, Samples.none(), call);
        only(1, Samples.one(), call);
        only(4, Samples.wide(20, 11), call);
    }

    static void noSuchGrower(Numbered call) {
        only(0, Samples.none(), call);
        only(1, Samples.one(), call);
        only(6, Samples.wide(20, 11), call);
    }

    static void noSuchPlot(Numbered call) {
        only(0, Samples.none(), call);
        only(1, Samples.one(), call);
        only(8, Samples.wide(18, 11), call);
    }

    static void noSuchLoad(Numbered call) {
        only(0, Samples.none(), call);
        only(1, Samples.one(), call);
        only(20, Samples.wide(20, 11), call);
    }

    static void noSuchTank(Numbered call) {
        only(0, Samples.none(), call);
        only(1, Samples.one(), call);
        only(5, Samples.wide(20, 10), call);
    }

    static void noSuchLot(Numbered call) {
        only(0, Samples.none(), call);
        only(1, Samples.one(), call);
        only(12, Samples.wide(20, 12), call);
    }

    static void noSuchVarietyOrClass(Paired call) {
        only(0, Samples.none(), (x, variety) -> call.on(x, variety, 0));
        only(1, Samples.one(), (x, variety) -> call.on(x, variety, 0));
        only(1, Samples.one(), (x, grade) -> call.on(x, 0, grade));
        only(4, Samples.wide(20, 11), (x, variety) -> call.on(x, variety, 3));
        only(4, Samples.wide(20, 11), (x, grade) -> call.on(x, 3, grade));
        only(3, new WineCooperative(), (x, grade) -> call.on(x, 1, grade));
        only(2, new WineCooperative(), (x, variety) -> call.on(x, variety, 2));
    }

    /** The numbers 0 to count - 1 name something, and no other one does. */
    private static void only(int count, WineCooperative x, Numbered call) {
        for (int wrong : new int[] {Samples.MIN, -1, count, count + 1, Samples.MAX}) {
            Check.index("number " + wrong + " of " + count, () -> call.on(x, wrong));
        }
        if (count > 0) {
            Check.answers("number 0 of " + count, () -> call.on(x, 0));
        }
        if (count > 1) {
            Check.answers("the last number of " + count, () -> call.on(x, count - 1));
        }
    }

    /** The first values that are not allowed, and the farthest ones, and what they leave unchanged. */
    static void outOfRange(int low, int high, Supplier<WineCooperative> make, Numbered call) {
        for (int wrong : new int[] {Samples.MIN, low - 1, high + 1, Samples.MAX}) {
            refused(IllegalArgumentException.class, "with " + wrong, make, x -> call.on(x, wrong));
        }
    }

    /** The call throws this very exception, and the object is afterwards as one without the call. */
    static void refused(Class<?> due, String what, Supplier<WineCooperative> make, Consumer<WineCooperative> call) {
        WineCooperative x = make.get();
        Check.thrown("the call " + what, due, () -> call.accept(x));
        Check.same("the object after the refused call " + what, traces(x), traces(make.get()));
    }

    static void refusedNow(String what, Supplier<WineCooperative> make, Consumer<WineCooperative> call) {
        refused(IllegalStateException.class, what, make, call);
    }

    /** All that can be asked of an object, with its error, and what is left when it undoes all that it can. */
    static String traces(WineCooperative x) {
        StringBuilder all = new StringBuilder(Fingerprint.of(x));
        all.append(x.errorCode()).append(' ').append(x.errorOffset()).append(' ').append(x.cash());
        for (int i = 0; i < 7; i++) {
            try {
                all.append(" undone to ").append(x.undo()).append(' ').append(x.cash());
            } catch (IllegalStateException e) {
                all.append(" no more");
            }
        }
        return all.toString();
    }
}
