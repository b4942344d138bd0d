import java.util.function.Supplier;

/**
 * Two objects made by the same calls. One of them gets one call more that is to change nothing, and then
 * both must answer alike, whatever is asked.
 */
final class Twins {
    interface Call {
        long answer(LeagueRounds x);
    }

    private Twins() {
    }

    /** The call is refused with that exception, and all stays as it was. */
    static void refused(String what, Class<? extends RuntimeException> want, Supplier<LeagueRounds> recipe, Call call) {
        LeagueRounds touched = recipe.get();
        Check.dueThrow(what, want, () -> call.answer(touched));
        alike(what, recipe, touched);
    }

    /** The call answers that, and all stays as it was. */
    static void stays(String what, long want, Supplier<LeagueRounds> recipe, Call call) {
        LeagueRounds touched = recipe.get();
        Check.due(what, want, () -> call.answer(touched));
        alike(what, recipe, touched);
    }

    private static void alike(String what, Supplier<LeagueRounds> recipe, LeagueRounds touched) {
        Check.same(what + ": all that is asked then", Probe.of(recipe.get()), Probe.of(touched));
    }
}
