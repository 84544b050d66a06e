/** Every call of the face by a number, of an object and of the model: what it answers, or how it refuses. */
final class Calls {
    static final String[] NAMES = {
        "coast", "pilot", "report", "chart", "hand", "reads", "copy", "paste", "island", "exchange", "shrink",
        "lose", "paint", "told", "at", "chain", "of", "ofIsland", "fit", "shared", "kin", "date"
    };
    /** The first of those that only ask. */
    static final int ASKING = 13;
    static final long OTHER = Long.MIN_VALUE + 3;

    private Calls() {
    }

    static long real(PortolanHall h, int call, int[] a) {
        try {
            return call < ASKING ? change(h, call, a) : ask(h, call, a);
        } catch (RuntimeException e) {
            return refusal(e);
        }
    }

    private static long refusal(RuntimeException e) {
        if (e.getClass() == IndexOutOfBoundsException.class) {
            return Model.INDEX;
        }
        if (e.getClass() == IllegalArgumentException.class) {
            return Model.ARGUMENT;
        }
        return e.getClass() == IllegalStateException.class ? Model.STATE : OTHER;
    }

    private static long change(PortolanHall h, int call, int[] a) {
        switch (call) {
            case 0: h.coast(a[0], a[1], a[2], a[3], a[4]); return 0;
            case 1: return h.pilot(a[0], a[1]);
            case 2: return h.report(a[0], a[1], a[2]);
            case 3: return h.chart(a[0], a[1]);
            case 4: return h.hand(a[0], a[1]);
            case 5: h.reads(a[0], a[1], a[2]); return 0;
            case 6: return h.copy(a[0], a[1], a[2], a[3]);
            case 7: return h.paste(a[0], a[1], a[2], a[3]);
            case 8: return h.island(a[0], a[1], a[2]);
            case 9: h.exchange(a[0], a[1], a[2]); return 0;
            case 10: return h.shrink(a[0], a[1], a[2], a[3] != 0);
            case 11: return h.lose(a[0], a[1], a[2]);
            default: return h.paint(a[0], a[1]) ? 1 : 0;
        }
    }

    private static long ask(PortolanHall h, int call, int[] a) {
        switch (call) {
            case 13: return h.told(a[0], a[1] != 0);
            case 14: return h.at(a[0], a[1], a[2]);
            case 15: return h.chain(a[0], a[1], a[2]);
            case 16: return h.of(a[0], a[1]);
            case 17: return h.ofIsland(a[0], a[1]);
            case 18: return h.fit(a[0], a[1], a[2]);
            case 19: return h.shared(a[0], a[1], a[2]);
            case 20: return h.kin(a[0], a[1]);
            default: return h.date(a[0], a[1]);
        }
    }

    static long due(Model m, int call, int[] a) {
        switch (call) {
            case 0: return m.coast(a[0], a[1], a[2], a[3], a[4]);
            case 1: return m.pilot(a[0], a[1]);
            case 2: return m.report(a[0], a[1], a[2]);
            case 3: return m.chart(a[0], a[1]);
            case 4: return m.hand(a[0], a[1]);
            case 5: return m.reads(a[0], a[1], a[2]);
            case 6: return m.copy(a[0], a[1], a[2], a[3]);
            case 7: return m.paste(a[0], a[1], a[2], a[3]);
            case 8: return m.island(a[0], a[1], a[2]);
            case 9: return m.exchange(a[0], a[1], a[2]);
            case 10: return m.shrink(a[0], a[1], a[2], a[3] != 0);
            case 11: return m.lose(a[0], a[1], a[2]);
            case 12: return m.paint(a[0], a[1]);
            default: return dueAnswer(m, call, a);
        }
    }

    private static long dueAnswer(Model m, int call, int[] a) {
        switch (call) {
            case 13: return m.told(a[0], a[1] != 0);
            case 14: return m.at(a[0], a[1], a[2]);
            case 15: return m.chain(a[0], a[1], a[2]);
            case 16: return m.of(a[0], a[1]);
            case 17: return m.ofIsland(a[0], a[1]);
            case 18: return m.fit(a[0], a[1], a[2]);
            case 19: return m.shared(a[0], a[1], a[2]);
            case 20: return m.kin(a[0], a[1]);
            default: return m.date(a[0], a[1]);
        }
    }
}
