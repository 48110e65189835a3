import java.util.HashMap;
import java.util.Map;

/**
 * The plain model for films with too many plans to try each one. It goes from tick 0 on and keeps, of all beginnings of
 * plans that tell the same pictures and end at the same tick, the one that goes first: what may come behind them is the
 * same. (GapTellings goes the other way, from the film's end.)
 */
final class WideModel extends PlainModel {
    private static final int ALONE_IN_NEED = 5;

    /** The beginning of a plan, and the first tick at which another picture may begin. */
    private record Beginning(int[][] plan, int value, int free, int told) { }

    @Override
    int[][] bestPlan(int set) {
        Map<Integer, Beginning> kept = new HashMap<>();
        keep(kept, new Beginning(new int[pics.size()][], 0, 0, 0));
        for (int t = 0; t < ticks; t++) {
            Map<Integer, Beginning> next = new HashMap<>();
            for (Beginning one : kept.values()) {
                keep(next, new Beginning(one.plan, one.value, Math.max(one.free, t + 1), one.told));
                if (one.free <= t) goOn(next, one, t, set);
            }
            kept = next;
        }
        Beginning first = null;
        for (Beginning one : kept.values()) {
            if (first == null || isAhead(one, first)) first = one;
        }
        return first.plan;
    }

    private void goOn(Map<Integer, Beginning> next, Beginning one, int t, int set) {
        for (int p = 0; p < pics.size(); p++) {
            int needs = pics.get(p).needs;
            boolean hasNeed = needs < 0 || (one.told >> needs & 1) == 1;
            if ((set >> p & 1) == 0 || (one.told >> p & 1) == 1 || !hasNeed) continue;
            for (int v = 0; v < pics.get(p).versions.size(); v++) {
                if (!isOpen(p, v, t)) continue;
                int[][] plan = one.plan.clone();
                plan[p] = new int[] {v, t};
                keep(next, new Beginning(plan, one.value + gained(p, v, t), t + length(p, v) + breath, one.told | 1 << p));
            }
        }
    }

    /** With nothing else placed, a picture that NEEDS another one has no WHY NOT but that. */
    private boolean isOpen(int p, int v, int t) {
        int reason = whyNot(new int[pics.size()][], p, v, t);
        return reason == 0 || reason == ALONE_IN_NEED;
    }

    private void keep(Map<Integer, Beginning> kept, Beginning one) {
        int key = one.free << 7 | one.told;
        Beginning other = kept.get(key);
        if (other == null || isAhead(one, other)) kept.put(key, one);
    }

    private boolean isAhead(Beginning one, Beginning other) {
        return one.value != other.value ? one.value > other.value : goesFirst(one.plan, other.plan);
    }
}
