import java.util.ArrayList;
import java.util.List;
import java.util.regex.Matcher;
import java.util.regex.Pattern;

/**
 * The document's words done as slowly and as plainly as can be: ticks are walked one by one, and BEST is found by
 * trying every plan. The tests ask it what is due.
 */
class PlainModel {
    static final String FIRST = "f60;s0,6;s14,20;g20,28;s33,40;n44,50;p8,4,4,6,9,3,5;p18,6,8,7,12,4,7;"
        + "p30,9,5,8,20,5,12,2,6;p42,3,9,5,8;p55,9,2,4,6,2,3;c1,2;b1;";
    private static final int BAD = -1, NO = -2, FULL = -3, NONE = -4, ZERO = 100000;

    record Version(int length, int worth) { }

    record Sound(int kind, int from, int to) { }

    static final class Pic {
        int tick, early, late, needs = NONE;
        final List<Version> versions = new ArrayList<>();
    }

    String text = "";
    int ticks, breath;
    int[] rates;
    List<Sound> sounds;
    List<Pic> pics;
    /** Of each picture {version, tick}, or null. */
    int[][] placed;

    PlainModel() {
        String kept = text;
        text = FIRST;
        lay();
        text = kept;
    }

    // ---- told

    int write(int letter) {
        if (letter < 32 || letter > 126) return BAD;
        if (text.length() == 200) return FULL;
        text += (char) letter;
        return text.length();
    }

    int wipe() {
        int was = text.length();
        text = "";
        return was;
    }

    int fault() {
        int t = 0, soundsTold = 0;
        List<Boolean> needing = new ArrayList<>();
        int at = 0;
        while (at < text.length()) {
            int semicolon = text.indexOf(';', at);
            if (semicolon < 0) return at;
            String item = text.substring(at, semicolon);
            Matcher film = Pattern.compile("f(\\d{1,3})").matcher(item);
            Matcher sound = Pattern.compile("[sgn](\\d{1,2}),(\\d{1,3})").matcher(item);
            Matcher pic = Pattern.compile("p\\d{1,2},\\d{1,2},\\d{1,2}(,\\d{1,2},\\d{1,2}){1,3}").matcher(item);
            Matcher need = Pattern.compile("c(\\d{1,2}),(\\d{1,2})").matcher(item);
            Matcher breathes = Pattern.compile("b(\\d{1,2})").matcher(item);
            if (t == 0 && !film.matches()) return at;
            if (film.matches()) {
                int n = Integer.parseInt(film.group(1));
                if (t != 0 || n < 1 || n > 100) return at;
                t = n;
            } else if (sound.matches()) {
                int a = Integer.parseInt(sound.group(1)), b = Integer.parseInt(sound.group(2));
                if (a >= b || b > t || soundsTold == 12) return at;
                soundsTold++;
            } else if (pic.matches()) {
                String[] n = item.substring(1).split(",");
                boolean good = Integer.parseInt(n[0]) < t && Integer.parseInt(n[1]) <= 20 && Integer.parseInt(n[2]) <= 20
                    && needing.size() < 7;
                for (int i = 3; i < n.length; i += 2) {
                    int length = Integer.parseInt(n[i]);
                    good &= length >= 1 && length <= 30 && Integer.parseInt(n[i + 1]) >= 1;
                }
                if (!good) return at;
                needing.add(false);
            } else if (need.matches()) {
                int i = Integer.parseInt(need.group(1)), j = Integer.parseInt(need.group(2));
                if (j >= needing.size() || i >= j || needing.get(j)) return at;
                needing.set(j, true);
            } else if (breathes.matches()) {
                if (Integer.parseInt(breathes.group(1)) > 9) return at;
            } else {
                return at;
            }
            at = semicolon + 1;
        }
        return NONE;
    }

    int lay() {
        if (text.isEmpty() || fault() != NONE) return NO;
        rates = new int[] {2, 1, 3, 1};
        breath = 1;
        sounds = new ArrayList<>();
        pics = new ArrayList<>();
        for (String item : text.split(";")) {
            String[] parts = item.substring(1).split(",");
            int[] n = new int[parts.length];
            for (int i = 0; i < n.length; i++) n[i] = Integer.parseInt(parts[i]);
            switch (item.charAt(0)) {
                case 'f' -> ticks = n[0];
                case 's' -> sounds.add(new Sound(0, n[0], n[1]));
                case 'g' -> sounds.add(new Sound(1, n[0], n[1]));
                case 'n' -> sounds.add(new Sound(2, n[0], n[1]));
                case 'c' -> pics.get(n[1]).needs = n[0];
                case 'b' -> breath = n[0];
                default -> {
                    Pic pic = new Pic();
                    pic.tick = n[0];
                    pic.early = n[1];
                    pic.late = n[2];
                    for (int i = 3; i < n.length; i += 2) pic.versions.add(new Version(n[i], n[i + 1]));
                    pics.add(pic);
                }
            }
        }
        placed = new int[pics.size()][];
        return pics.size();
    }

    int rate(int what, int r) {
        if (what < 0 || what > 3 || r < 0 || r > 9) return BAD;
        if (rates[what] == r) return NO;
        int was = rates[what];
        rates[what] = r;
        return was;
    }

    int breath(int b) {
        if (b < 0 || b > 9) return BAD;
        if (breath == b) return NO;
        int was = breath;
        breath = b;
        placed = new int[pics.size()][];
        return was;
    }

    int sound(int kind, int from, int to) {
        if (kind < 0 || kind > 2 || from < 0 || from >= to || to > ticks) return BAD;
        if (sounds.size() == 12) return FULL;
        sounds.add(new Sound(kind, from, to));
        boolean again = true;
        while (again) {
            again = false;
            for (int p = 0; p < pics.size() && !again; p++) {
                if (placed[p] != null && whyNot(placed, p, placed[p][0], placed[p][1]) != 0) {
                    placed[p] = null;
                    again = true;
                }
            }
        }
        return sounds.size();
    }

    int hush(int s) {
        if (s < 0 || s >= sounds.size()) return BAD;
        sounds.remove(s);
        return sounds.size();
    }

    int version(int p, int length, int worth) {
        if (!isPic(p) || length < 1 || length > 30 || worth < 1 || worth > 99) return BAD;
        if (pics.get(p).versions.size() == 3) return FULL;
        pics.get(p).versions.add(new Version(length, worth));
        return pics.get(p).versions.size();
    }

    // ---- by hand

    int place(int p, int v, int t) {
        if (!isVersion(p, v) || !isTick(t)) return BAD;
        if (whyNot(placed, p, v, t) != 0) return NO;
        placed[p] = new int[] {v, t};
        return gained(p, v, t) + ZERO;
    }

    int off(int p) {
        if (!isPic(p)) return BAD;
        if (placed[p] == null) return NO;
        placed[p] = null;
        int gone = 1;
        for (int q = 0; q < pics.size(); q++) {
            if (pics.get(q).needs == p && placed[q] != null) gone += off(q);
        }
        return gone;
    }

    int why(int p, int v, int t) {
        return !isVersion(p, v) || !isTick(t) ? BAD : whyNot(placed, p, v, t);
    }

    int gain(int p, int v, int t) {
        if (!isVersion(p, v) || !isTick(t) || t + length(p, v) > ticks) return BAD;
        return gained(p, v, t) + ZERO;
    }

    int value() {
        return value(placed) + ZERO;
    }

    int adopt() {
        placed = bestPlan((1 << pics.size()) - 1);
        return size(placed);
    }

    int picture(int p, int what) {
        if (!isPic(p) || what < 0 || what > 6) return BAD;
        Pic pic = pics.get(p);
        return switch (what) {
            case 0 -> pic.tick;
            case 1 -> pic.early;
            case 2 -> pic.late;
            case 3 -> pic.versions.size();
            case 4 -> pic.needs;
            default -> placed[p] == null ? NONE : placed[p][what - 5];
        };
    }

    int told(int p, int v, int what) {
        if (!isVersion(p, v) || what < 0 || what > 4) return BAD;
        if (what == 0) return length(p, v);
        if (what == 1) return pics.get(p).versions.get(v).worth();
        int now = 0, ever = 0, greatest = NONE;
        for (int t = 0; t < ticks; t++) {
            int reason = whyNot(placed, p, v, t);
            if (reason == 0) now++;
            if (reason == 0 || reason > 3) {
                ever++;
                greatest = Math.max(greatest, gained(p, v, t) + ZERO);
            }
        }
        return what == 2 ? now : what == 3 ? ever : greatest;
    }

    // ---- the film

    int tick(int t) {
        if (!isTick(t)) return BAD;
        return (sounds(0, t) ? 1 : 0) + (sounds(1, t) ? 2 : 0) + (sounds(2, t) ? 4 : 0) + (tells(t) ? 8 : 0);
    }

    int silence(int i, int what) {
        if (i < -1 || what < 0 || what > 2) return BAD;
        List<int[]> silences = new ArrayList<>();
        int t = 0;
        while (t < ticks) {
            int[] one = {t, 0, 0};
            while (t < ticks && !sounds(0, t)) {
                one[1]++;
                if (tells(t)) one[2]++;
                t++;
            }
            if (one[1] > 0) silences.add(one);
            else t++;
        }
        if (i == -1) return silences.size();
        return i < silences.size() ? silences.get(i)[what] : NONE;
    }

    // ---- plans

    int best() {
        return value(bestPlan((1 << pics.size()) - 1));
    }

    int bestOf(int p, int what) {
        if (!isPic(p) || what < 0 || what > 1) return BAD;
        int[] way = bestPlan((1 << pics.size()) - 1)[p];
        return way == null ? NONE : way[what];
    }

    int bestBy(int set) {
        return set < 0 || set >= 1 << pics.size() ? BAD : value(bestPlan(set));
    }

    int bestIf(int s, int n) {
        if (s < 0 || s >= sounds.size()) return BAD;
        Sound was = sounds.get(s);
        if (n < 0 || n > was.to() - was.from()) return BAD;
        sounds.set(s, new Sound(was.kind(), was.from(), was.to() - n));
        int answer = best();
        sounds.set(s, was);
        return answer;
    }

    int bestBreath(int b) {
        if (b < 0 || b > 9) return BAD;
        int was = breath;
        breath = b;
        int answer = best();
        breath = was;
        return answer;
    }

    int greedy() {
        return value(greedyPlan()) + ZERO;
    }

    int greedyOf(int p, int what) {
        if (!isPic(p) || what < 0 || what > 1) return BAD;
        int[] way = greedyPlan()[p];
        return way == null ? NONE : way[what];
    }

    int count(int what) {
        int n = 0;
        switch (what) {
            case 0: return ticks;
            case 1: return sounds.size();
            case 2: return pics.size();
            case 3: return size(placed);
            case 4: return breath;
            case 5: return text.length();
            case 6: return size(bestPlan((1 << pics.size()) - 1));
            case 7:
                for (int t = 0; t < ticks; t++) n += sounds(0, t) ? 1 : 0;
                return n;
            case 8:
                for (int t = 0; t < ticks; t++) n += tells(t) ? 1 : 0;
                return n;
            case 9: case 10: case 11: case 12: return rates[what - 9];
            default: return BAD;
        }
    }

    // ---- what the words mean

    private boolean isPic(int p) {
        return p >= 0 && p < pics.size();
    }

    private boolean isVersion(int p, int v) {
        return isPic(p) && v >= 0 && v < pics.get(p).versions.size();
    }

    private boolean isTick(int t) {
        return t >= 0 && t < ticks;
    }

    final int length(int p, int v) {
        return pics.get(p).versions.get(v).length();
    }

    private boolean sounds(int kind, int t) {
        for (Sound s : sounds) {
            if (s.kind() == kind && s.from() <= t && t < s.to()) return true;
        }
        return false;
    }

    private boolean tells(int t) {
        for (int p = 0; p < pics.size(); p++) {
            if (placed[p] != null && placed[p][1] <= t && t < placed[p][1] + length(p, placed[p][0])) return true;
        }
        return false;
    }

    final int whyNot(int[][] plan, int p, int v, int t) {
        Pic pic = pics.get(p);
        int end = t + length(p, v);
        if (end > ticks) return 1;
        if (t < pic.tick - pic.early || t > pic.tick + pic.late) return 2;
        for (int i = t; i < end; i++) {
            if (sounds(0, i)) return 3;
        }
        for (int q = 0; q < plan.length; q++) {
            if (q == p || plan[q] == null) continue;
            int begin = plan[q][1], over = begin + length(q, plan[q][0]);
            boolean ahead = over + breath <= t, behind = end + breath <= begin;
            if (!ahead && !behind) return 4;
        }
        if (pic.needs != NONE) {
            int[] way = plan[pic.needs];
            if (way == null || way[1] + length(pic.needs, way[0]) > t) return 5;
        }
        for (int q = 0; q < plan.length; q++) {
            if (pics.get(q).needs == p && plan[q] != null && plan[q][1] < end) return 6;
        }
        return 0;
    }

    final int gained(int p, int v, int t) {
        Pic pic = pics.get(p);
        int sum = pic.versions.get(v).worth();
        if (t < pic.tick) sum -= rates[0] * (pic.tick - t);
        if (t > pic.tick) sum -= rates[1] * (t - pic.tick);
        for (int i = t; i < t + length(p, v); i++) {
            if (sounds(1, i)) sum -= rates[2];
            else if (sounds(2, i)) sum -= rates[3];
        }
        return sum;
    }

    private int value(int[][] plan) {
        int sum = 0;
        for (int p = 0; p < plan.length; p++) {
            if (plan[p] != null) sum += gained(p, plan[p][0], plan[p][1]);
        }
        return sum;
    }

    private static int size(int[][] plan) {
        int n = 0;
        for (int[] way : plan) n += way == null ? 0 : 1;
        return n;
    }

    /** Every plan, pictures in the order of their numbers; what a picture needs is of a lower number. */
    int[][] bestPlan(int set) {
        int[][][] found = {new int[pics.size()][]};
        tryAll(new int[pics.size()][], 0, set, found, new int[] {0});
        return found[0];
    }

    private void tryAll(int[][] plan, int p, int set, int[][][] found, int[] most) {
        if (p == plan.length) {
            int value = value(plan);
            if (value > most[0] || value == most[0] && goesFirst(plan, found[0])) {
                most[0] = value;
                found[0] = plan.clone();
            }
            return;
        }
        tryAll(plan, p + 1, set, found, most);
        if ((set >> p & 1) == 0) return;
        Pic pic = pics.get(p);
        for (int v = 0; v < pic.versions.size(); v++) {
            for (int t = Math.max(0, pic.tick - pic.early); t <= pic.tick + pic.late && t < ticks; t++) {
                // Of those placed till now none has a higher number, so a WHY NOT stays one whatever comes.
                if (whyNot(plan, p, v, t) == 0) {
                    plan[p] = new int[] {v, t};
                    tryAll(plan, p + 1, set, found, most);
                    plan[p] = null;
                }
            }
        }
    }

    final boolean goesFirst(int[][] one, int[][] other) {
        for (int t = 0; t < ticks; t++) {
            int a = beginner(one, t), b = beginner(other, t);
            if (a == b) continue;
            return a < b;
        }
        return false;
    }

    /** Picture and version that begin at a tick, as one number; none is behind all. */
    private static int beginner(int[][] plan, int t) {
        for (int p = 0; p < plan.length; p++) {
            if (plan[p] != null && plan[p][1] == t) return p * 10 + plan[p][0];
        }
        return 1000;
    }

    private int[][] greedyPlan() {
        int[][] plan = new int[pics.size()][];
        List<Integer> passed = new ArrayList<>();
        while (true) {
            List<int[]> offers = new ArrayList<>();
            for (int p = 0; p < plan.length; p++) {
                for (int v = 0; v < pics.get(p).versions.size(); v++) {
                    for (int t = 0; t < ticks; t++) {
                        if (plan[p] == null && !passed.contains(p * 10 + v) && whyNot(plan, p, v, t) == 0) {
                            offers.add(new int[] {-pics.get(p).versions.get(v).worth(), -gained(p, v, t), p, v, t});
                        }
                    }
                }
            }
            if (offers.isEmpty()) return plan;
            offers.sort(java.util.Arrays::compare);
            int[] first = offers.get(0);
            if (-first[1] > 0) plan[first[2]] = new int[] {first[3], first[4]};
            else passed.add(first[2] * 10 + first[3]);
        }
    }
}
