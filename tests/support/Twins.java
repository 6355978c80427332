/**
 * A call that throws an exception changes nothing: two objects get the same calls, one of them the call that throws
 * besides, and then nothing that can be asked tells them apart.
 */
final class Twins {
    /** Odd, as what is turned over twice seems unchanged. */
    private static final int TIMES = 3;

    interface Story {
        void on(PatchbayScript script);
    }

    interface Call {
        long on(PatchbayScript script);
    }

    private Twins() {
    }

    static void failIndex(String what, Story story, Call call) {
        fail(what, IndexOutOfBoundsException.class, story, call);
    }

    static void failArgument(String what, Story story, Call call) {
        fail(what, IllegalArgumentException.class, story, call);
    }

    static void failState(String what, Story story, Call call) {
        fail(what, IllegalStateException.class, story, call);
    }

    private static void fail(String what, Class<? extends RuntimeException> want, Story story, Call call) {
        PatchbayScript quiet = new PatchbayScript();
        PatchbayScript busy = new PatchbayScript();
        story.on(quiet);
        story.on(busy);
        for (int i = 0; i < TIMES; i++) {
            Due.fails(what, want, () -> call.on(busy));
        }
        Due.is("what is told after " + what, Probe.told(busy), Probe.told(quiet));
    }

    /** The numbers next to those from the first to the last one, and the farthest out. */
    static int[] outside(int first, int last) {
        return new int[] {Integer.MIN_VALUE, first - 1, last + 1, Integer.MAX_VALUE};
    }
}
