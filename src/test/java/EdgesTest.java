import java.io.IOException;
import java.nio.file.Files;
import java.nio.file.Path;
import java.util.ArrayList;
import java.util.BitSet;
import java.util.List;
import java.util.Map;
import java.util.TreeMap;
import java.util.regex.Matcher;
import java.util.regex.Pattern;

/**
 * Each sentence of the document that names an edge, on its sides; and that there is none without:
 * every sentence told to Edge stands in the document where it is said to, and all of the document is in one.
 */
public final class EdgesTest {
    private static final Path DOCUMENT = Path.of("../shared/DOC.md");

    public static void main(String[] args) throws IOException {
        TermsEdges.run();
        LanguageEdges.run();
        DeedsEdges.run();
        RowsEdges.run();
        TextsEdges.run();
        ChainEdges.run();
        TurnsEdges.run();
        DoneEdges.run();
        AsideEdges.run();
        FitsEdges.run();
        ChancesEdges.run();
        ToldEdges.run();
        Map<Integer, String> paragraphs = paragraphs(Files.readString(DOCUMENT));
        Check.due("promises in the document", paragraphs.size(), 2 + 43);
        for (Map.Entry<Integer, String> paragraph : paragraphs.entrySet()) {
            allSaid(paragraph.getKey(), paragraph.getValue());
        }
        Check.end();
    }

    /** What each promise says behind its head, by its number; what is said ahead by Edge.WHOLE, Edge.TERMS. */
    private static Map<Integer, String> paragraphs(String document) {
        Map<Integer, String> all = new TreeMap<>();
        Matcher whole = Pattern.compile("(?m)^An object is used .*$").matcher(document);
        Check.due("how often it is used is found", whole.find() ? 1 : 0, 1);
        all.put(Edge.WHOLE, plain(whole.group()));
        Matcher terms = Pattern.compile("(?s)## Terms\\n(.*?)\\n## Promise 1:").matcher(document);
        Check.due("the terms are found", terms.find() ? 1 : 0, 1);
        String said = terms.group(1).replaceAll("(?m)^Ahead of the calls .*$", "").replaceAll("```(text)?", "");
        all.put(Edge.TERMS, plain(said.replaceAll("======== [12] ", "")));
        Matcher promise = Pattern.compile("(?s)## Promise (\\d+): [^\\n]*\\n\\s*`[^`]*`: (.*?)(?=\\n## )").matcher(document);
        while (promise.find()) {
            all.put(Integer.parseInt(promise.group(1)), plain(promise.group(2)));
        }
        return all;
    }

    private static String plain(String text) {
        return text.replaceAll("\\s+", " ").trim();
    }

    private static void allSaid(int promise, String paragraph) {
        BitSet said = new BitSet(paragraph.length());
        for (String sentence : Edge.SENTENCES.getOrDefault(promise, new ArrayList<>())) {
            int from = paragraph.indexOf(sentence);
            Check.due("promise " + promise + " says '" + sentence + "'", from >= 0 ? 1 : 0, 1);
            if (from >= 0) {
                said.set(from, from + sentence.length());
            }
        }
        List<String> unsaid = new ArrayList<>();
        int from = said.nextClearBit(0);
        while (from < paragraph.length()) {
            int to = said.nextSetBit(from) < 0 ? paragraph.length() : said.nextSetBit(from);
            if (!paragraph.substring(from, to).isBlank()) {
                unsaid.add(paragraph.substring(from, to));
            }
            from = said.nextClearBit(to);
        }
        Check.due("promise " + promise + " without an edge: " + unsaid, unsaid.size(), 0);
    }
}
