import java.util.ArrayList;
import java.util.List;
import java.util.regex.Matcher;
import java.util.regex.Pattern;

/** How a TEXT is read, by a table of states instead of a descent. */
final class TextModel {
    private static final Pattern TOKEN = Pattern.compile("[a-z]+|[0-9]+|[^ ]", Pattern.DOTALL);
    private static final List<String> CAUSES = List.of("van", "jail", "road", "court", "none");

    private TextModel() {}

    /** -1 and the LINES, or the FAULT. */
    static int read(String text, List<Model.Line> lines) {
        Matcher m = TOKEN.matcher(text);
        String state = "line";
        int causes = 0;
        List<Integer> n = new ArrayList<>();
        int sort = 0;
        while (m.find()) {
            String t = m.group();
            String next = next(state, t, lines.size());
            if (next == null) {
                return m.start();
            }
            if (state.equals("line")) {
                sort = List.of("by", "free", "most").indexOf(t);
                causes = 0;
                n.clear();
            }
            if (state.equals("cause")) {
                causes |= 1 << CAUSES.indexOf(t);
            }
            if (t.matches("[0-9]+")) {
                n.add(Integer.parseInt(t));
            }
            if (next.equals("line")) {
                lines.add(new Model.Line(sort, causes, n.get(0), n.size() > 1 ? n.get(1) : -9, n.size() > 2 ? n.get(2) : -9));
            }
            state = next;
        }
        return state.equals("line") ? -1 : text.length();
    }

    private static String next(String state, String t, int lines) {
        boolean n = t.matches("[0-9]{1,3}");
        return switch (state) {
            case "line" -> lines == 8 ? null : t.equals("by") ? "cause" : t.equals("free") || t.equals("most") ? "n" : null;
            case "cause" -> CAUSES.contains(t) ? "behind cause" : null;
            case "behind cause" -> t.equals("or") ? "cause" : t.equals("over") ? "first" : null;
            case "first" -> n ? "pays" : null;
            case "pays" -> t.equals("pays") ? "second" : null;
            case "second" -> n ? "each" : null;
            case "each" -> t.equals("each") ? "third" : null;
            case "third" -> n && !t.matches("0+") ? "end" : null;
            case "n" -> n ? "end" : null;
            default -> t.equals(";") ? "line" : null;
        };
    }
}
